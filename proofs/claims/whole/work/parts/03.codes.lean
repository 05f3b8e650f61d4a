theorem dX0_init_0 : decode cX0_init 0 = .ok (.aload_n 0, 1) := by decide +kernel
theorem dX0_init_1 : decode cX0_init 1 = .ok (.invokespecial 3, 3) := by decide +kernel
theorem dX0_init_4 : decode cX0_init 4 = .ok (.aload_n 0, 1) := by decide +kernel
theorem dX0_init_5 : decode cX0_init 5 = .ok (.new 9, 3) := by decide +kernel
theorem dX0_init_8 : decode cX0_init 8 = .ok (.dup, 1) := by decide +kernel
theorem dX0_init_9 : decode cX0_init 9 = .ok (.bipush 64, 2) := by decide +kernel
theorem dX0_init_11 : decode cX0_init 11 = .ok (.invokespecial 11, 3) := by decide +kernel
theorem dX0_init_14 : decode cX0_init 14 = .ok (.putfield 14, 3) := by decide +kernel
theorem dX0_init_17 : decode cX0_init 17 = .ok (.aload_n 0, 1) := by decide +kernel
theorem dX0_init_18 : decode cX0_init 18 = .ok (.new 9, 3) := by decide +kernel
theorem dX0_init_21 : decode cX0_init 21 = .ok (.dup, 1) := by decide +kernel
theorem dX0_init_22 : decode cX0_init 22 = .ok (.bipush 64, 2) := by decide +kernel
theorem dX0_init_24 : decode cX0_init 24 = .ok (.invokespecial 11, 3) := by decide +kernel
theorem dX0_init_27 : decode cX0_init 27 = .ok (.putfield 20, 3) := by decide +kernel
theorem dX0_init_30 : decode cX0_init 30 = .ok (.aload_n 0, 1) := by decide +kernel
theorem dX0_init_31 : decode cX0_init 31 = .ok (.new 9, 3) := by decide +kernel
theorem dX0_init_34 : decode cX0_init 34 = .ok (.dup, 1) := by decide +kernel
theorem dX0_init_35 : decode cX0_init 35 = .ok (.bipush 64, 2) := by decide +kernel
theorem dX0_init_37 : decode cX0_init 37 = .ok (.invokespecial 11, 3) := by decide +kernel
theorem dX0_init_40 : decode cX0_init 40 = .ok (.putfield 23, 3) := by decide +kernel
theorem dX0_init_43 : decode cX0_init 43 = .ok (.return_, 1) := by decide +kernel
theorem dX0_play_0 : decode cX0_play 0 = .ok (.iload_n 2, 1) := by decide +kernel
theorem dX0_play_1 : decode cX0_play 1 = .ok (.invokestatic 26, 3) := by decide +kernel
theorem dX0_play_4 : decode cX0_play 4 = .ok (.istore_n 3, 1) := by decide +kernel
theorem dX0_play_5 : decode cX0_play 5 = .ok (.iconst 1, 1) := by decide +kernel
theorem dX0_play_6 : decode cX0_play 6 = .ok (.aload_n 1, 1) := by decide +kernel
theorem dX0_play_7 : decode cX0_play 7 = .ok (.getfield 32, 3) := by decide +kernel
theorem dX0_play_10 : decode cX0_play 10 = .ok (.ishl, 1) := by decide +kernel
theorem dX0_play_11 : decode cX0_play 11 = .ok (.iconst 1, 1) := by decide +kernel
theorem dX0_play_12 : decode cX0_play 12 = .ok (.isub, 1) := by decide +kernel
theorem dX0_play_13 : decode cX0_play 13 = .ok (.istore 4, 2) := by decide +kernel
theorem dX0_play_15 : decode cX0_play 15 = .ok (.iload 4, 2) := by decide +kernel
theorem dX0_play_17 : decode cX0_play 17 = .ok (.ifCond .lt 45, 3) := by decide +kernel
theorem dX0_play_20 : decode cX0_play 20 = .ok (.iload 4, 2) := by decide +kernel
theorem dX0_play_22 : decode cX0_play 22 = .ok (.iload_n 2, 1) := by decide +kernel
theorem dX0_play_23 : decode cX0_play 23 = .ok (.iand, 1) := by decide +kernel
theorem dX0_play_24 : decode cX0_play 24 = .ok (.iload_n 2, 1) := by decide +kernel
theorem dX0_play_25 : decode cX0_play 25 = .ok (.if_icmp .ne 31, 3) := by decide +kernel
theorem dX0_play_28 : decode cX0_play 28 = .ok (.iload 4, 2) := by decide +kernel
theorem dX0_play_30 : decode cX0_play 30 = .ok (.invokestatic 26, 3) := by decide +kernel
theorem dX0_play_33 : decode cX0_play 33 = .ok (.iload_n 3, 1) := by decide +kernel
theorem dX0_play_34 : decode cX0_play 34 = .ok (.isub, 1) := by decide +kernel
theorem dX0_play_35 : decode cX0_play 35 = .ok (.iconst 2, 1) := by decide +kernel
theorem dX0_play_36 : decode cX0_play 36 = .ok (.irem, 1) := by decide +kernel
theorem dX0_play_37 : decode cX0_play 37 = .ok (.ifCond .ne 7, 3) := by decide +kernel
theorem dX0_play_40 : decode cX0_play 40 = .ok (.iconst 1, 1) := by decide +kernel
theorem dX0_play_41 : decode cX0_play 41 = .ok (.goto 4, 3) := by decide +kernel
theorem dX0_play_44 : decode cX0_play 44 = .ok (.iconst 0, 1) := by decide +kernel
theorem dX0_play_45 : decode cX0_play 45 = .ok (.istore 5, 2) := by decide +kernel
theorem dX0_play_47 : decode cX0_play 47 = .ok (.aload_n 0, 1) := by decide +kernel
theorem dX0_play_48 : decode cX0_play 48 = .ok (.aload_n 1, 1) := by decide +kernel
theorem dX0_play_49 : decode cX0_play 49 = .ok (.iload 4, 2) := by decide +kernel
theorem dX0_play_51 : decode cX0_play 51 = .ok (.iload 5, 2) := by decide +kernel
theorem dX0_play_53 : decode cX0_play 53 = .ok (.invokevirtual 38, 3) := by decide +kernel
theorem dX0_play_56 : decode cX0_play 56 = .ok (.iinc 4 (-1), 3) := by decide +kernel
theorem dX0_play_59 : decode cX0_play 59 = .ok (.goto (-44), 3) := by decide +kernel
theorem dX0_play_62 : decode cX0_play 62 = .ok (.return_, 1) := by decide +kernel
theorem dX0_sentFrom_0 : decode cX0_sentFrom 0 = .ok (.aload_n 0, 1) := by decide +kernel
theorem dX0_sentFrom_1 : decode cX0_sentFrom 1 = .ok (.getfield 23, 3) := by decide +kernel
theorem dX0_sentFrom_4 : decode cX0_sentFrom 4 = .ok (.iload_n 1, 1) := by decide +kernel
theorem dX0_sentFrom_5 : decode cX0_sentFrom 5 = .ok (.invokevirtual 42, 3) := by decide +kernel
theorem dX0_sentFrom_8 : decode cX0_sentFrom 8 = .ok (.ireturn, 1) := by decide +kernel
theorem dX0_aboveFrom_0 : decode cX0_aboveFrom 0 = .ok (.aload_n 0, 1) := by decide +kernel
theorem dX0_aboveFrom_1 : decode cX0_aboveFrom 1 = .ok (.getfield 14, 3) := by decide +kernel
theorem dX0_aboveFrom_4 : decode cX0_aboveFrom 4 = .ok (.iload_n 1, 1) := by decide +kernel
theorem dX0_aboveFrom_5 : decode cX0_aboveFrom 5 = .ok (.invokevirtual 42, 3) := by decide +kernel
theorem dX0_aboveFrom_8 : decode cX0_aboveFrom 8 = .ok (.ireturn, 1) := by decide +kernel
theorem dX0_belowFrom_0 : decode cX0_belowFrom 0 = .ok (.aload_n 0, 1) := by decide +kernel
theorem dX0_belowFrom_1 : decode cX0_belowFrom 1 = .ok (.getfield 20, 3) := by decide +kernel
theorem dX0_belowFrom_4 : decode cX0_belowFrom 4 = .ok (.iload_n 1, 1) := by decide +kernel
theorem dX0_belowFrom_5 : decode cX0_belowFrom 5 = .ok (.invokevirtual 42, 3) := by decide +kernel
theorem dX0_belowFrom_8 : decode cX0_belowFrom 8 = .ok (.ireturn, 1) := by decide +kernel
theorem dX0_chooseBest_0 : decode cX0_chooseBest 0 = .ok (.aload_n 0, 1) := by decide +kernel
theorem dX0_chooseBest_1 : decode cX0_chooseBest 1 = .ok (.iload_n 2, 1) := by decide +kernel
theorem dX0_chooseBest_2 : decode cX0_chooseBest 2 = .ok (.iconst (-1), 1) := by decide +kernel
theorem dX0_chooseBest_3 : decode cX0_chooseBest 3 = .ok (.iconst 0, 1) := by decide +kernel
theorem dX0_chooseBest_4 : decode cX0_chooseBest 4 = .ok (.iconst 0, 1) := by decide +kernel
theorem dX0_chooseBest_5 : decode cX0_chooseBest 5 = .ok (.invokevirtual 45, 3) := by decide +kernel
theorem dX0_chooseBest_8 : decode cX0_chooseBest 8 = .ok (.iconst 0, 1) := by decide +kernel
theorem dX0_chooseBest_9 : decode cX0_chooseBest 9 = .ok (.istore 4, 2) := by decide +kernel
theorem dX0_chooseBest_11 : decode cX0_chooseBest 11 = .ok (.iload 4, 2) := by decide +kernel
theorem dX0_chooseBest_13 : decode cX0_chooseBest 13 = .ok (.aload_n 1, 1) := by decide +kernel
theorem dX0_chooseBest_14 : decode cX0_chooseBest 14 = .ok (.getfield 32, 3) := by decide +kernel
theorem dX0_chooseBest_17 : decode cX0_chooseBest 17 = .ok (.if_icmp .ge 75, 3) := by decide +kernel
theorem dX0_chooseBest_20 : decode cX0_chooseBest 20 = .ok (.iload_n 2, 1) := by decide +kernel
theorem dX0_chooseBest_21 : decode cX0_chooseBest 21 = .ok (.iconst 1, 1) := by decide +kernel
theorem dX0_chooseBest_22 : decode cX0_chooseBest 22 = .ok (.iload 4, 2) := by decide +kernel
theorem dX0_chooseBest_24 : decode cX0_chooseBest 24 = .ok (.ishl, 1) := by decide +kernel
theorem dX0_chooseBest_25 : decode cX0_chooseBest 25 = .ok (.ior, 1) := by decide +kernel
theorem dX0_chooseBest_26 : decode cX0_chooseBest 26 = .ok (.istore 5, 2) := by decide +kernel
theorem dX0_chooseBest_28 : decode cX0_chooseBest 28 = .ok (.iload 5, 2) := by decide +kernel
theorem dX0_chooseBest_30 : decode cX0_chooseBest 30 = .ok (.iload_n 2, 1) := by decide +kernel
theorem dX0_chooseBest_31 : decode cX0_chooseBest 31 = .ok (.if_icmp .eq 55, 3) := by decide +kernel
theorem dX0_chooseBest_34 : decode cX0_chooseBest 34 = .ok (.aload_n 0, 1) := by decide +kernel
theorem dX0_chooseBest_35 : decode cX0_chooseBest 35 = .ok (.aload_n 0, 1) := by decide +kernel
theorem dX0_chooseBest_36 : decode cX0_chooseBest 36 = .ok (.getfield 14, 3) := by decide +kernel
theorem dX0_chooseBest_39 : decode cX0_chooseBest 39 = .ok (.iload 5, 2) := by decide +kernel
theorem dX0_chooseBest_41 : decode cX0_chooseBest 41 = .ok (.invokevirtual 42, 3) := by decide +kernel
theorem dX0_chooseBest_44 : decode cX0_chooseBest 44 = .ok (.aload_n 0, 1) := by decide +kernel
theorem dX0_chooseBest_45 : decode cX0_chooseBest 45 = .ok (.getfield 20, 3) := by decide +kernel
theorem dX0_chooseBest_48 : decode cX0_chooseBest 48 = .ok (.iload 5, 2) := by decide +kernel
theorem dX0_chooseBest_50 : decode cX0_chooseBest 50 = .ok (.invokevirtual 42, 3) := by decide +kernel
theorem dX0_chooseBest_53 : decode cX0_chooseBest 53 = .ok (.iload_n 2, 1) := by decide +kernel
theorem dX0_chooseBest_54 : decode cX0_chooseBest 54 = .ok (.iload_n 3, 1) := by decide +kernel
theorem dX0_chooseBest_55 : decode cX0_chooseBest 55 = .ok (.invokevirtual 49, 3) := by decide +kernel
theorem dX0_chooseBest_58 : decode cX0_chooseBest 58 = .ok (.ifCond .eq 28, 3) := by decide +kernel
theorem dX0_chooseBest_61 : decode cX0_chooseBest 61 = .ok (.aload_n 0, 1) := by decide +kernel
theorem dX0_chooseBest_62 : decode cX0_chooseBest 62 = .ok (.iload_n 2, 1) := by decide +kernel
theorem dX0_chooseBest_63 : decode cX0_chooseBest 63 = .ok (.iload 4, 2) := by decide +kernel
theorem dX0_chooseBest_65 : decode cX0_chooseBest 65 = .ok (.aload_n 0, 1) := by decide +kernel
theorem dX0_chooseBest_66 : decode cX0_chooseBest 66 = .ok (.getfield 14, 3) := by decide +kernel
theorem dX0_chooseBest_69 : decode cX0_chooseBest 69 = .ok (.iload 5, 2) := by decide +kernel
theorem dX0_chooseBest_71 : decode cX0_chooseBest 71 = .ok (.invokevirtual 42, 3) := by decide +kernel
theorem dX0_chooseBest_74 : decode cX0_chooseBest 74 = .ok (.aload_n 0, 1) := by decide +kernel
theorem dX0_chooseBest_75 : decode cX0_chooseBest 75 = .ok (.getfield 20, 3) := by decide +kernel
theorem dX0_chooseBest_78 : decode cX0_chooseBest 78 = .ok (.iload 5, 2) := by decide +kernel
theorem dX0_chooseBest_80 : decode cX0_chooseBest 80 = .ok (.invokevirtual 42, 3) := by decide +kernel
theorem dX0_chooseBest_83 : decode cX0_chooseBest 83 = .ok (.invokevirtual 45, 3) := by decide +kernel
theorem dX0_chooseBest_86 : decode cX0_chooseBest 86 = .ok (.iinc 4 1, 3) := by decide +kernel
theorem dX0_chooseBest_89 : decode cX0_chooseBest 89 = .ok (.goto (-78), 3) := by decide +kernel
theorem dX0_chooseBest_92 : decode cX0_chooseBest 92 = .ok (.aload_n 1, 1) := by decide +kernel
theorem dX0_chooseBest_93 : decode cX0_chooseBest 93 = .ok (.iload_n 2, 1) := by decide +kernel
theorem dX0_chooseBest_94 : decode cX0_chooseBest 94 = .ok (.invokevirtual 53, 3) := by decide +kernel
theorem dX0_chooseBest_97 : decode cX0_chooseBest 97 = .ok (.istore 4, 2) := by decide +kernel
theorem dX0_chooseBest_99 : decode cX0_chooseBest 99 = .ok (.iload 4, 2) := by decide +kernel
theorem dX0_chooseBest_101 : decode cX0_chooseBest 101 = .ok (.ifCond .ne 10, 3) := by decide +kernel
theorem dX0_chooseBest_104 : decode cX0_chooseBest 104 = .ok (.aload_n 1, 1) := by decide +kernel
theorem dX0_chooseBest_105 : decode cX0_chooseBest 105 = .ok (.getfield 56, 3) := by decide +kernel
theorem dX0_chooseBest_108 : decode cX0_chooseBest 108 = .ok (.goto 8, 3) := by decide +kernel
theorem dX0_chooseBest_111 : decode cX0_chooseBest 111 = .ok (.aload_n 1, 1) := by decide +kernel
theorem dX0_chooseBest_112 : decode cX0_chooseBest 112 = .ok (.iload_n 2, 1) := by decide +kernel
theorem dX0_chooseBest_113 : decode cX0_chooseBest 113 = .ok (.invokevirtual 59, 3) := by decide +kernel
theorem dX0_chooseBest_116 : decode cX0_chooseBest 116 = .ok (.istore 5, 2) := by decide +kernel
theorem dX0_chooseBest_118 : decode cX0_chooseBest 118 = .ok (.iload 4, 2) := by decide +kernel
theorem dX0_chooseBest_120 : decode cX0_chooseBest 120 = .ok (.ifCond .ne 7, 3) := by decide +kernel
theorem dX0_chooseBest_123 : decode cX0_chooseBest 123 = .ok (.iconst 1, 1) := by decide +kernel
theorem dX0_chooseBest_124 : decode cX0_chooseBest 124 = .ok (.goto 5, 3) := by decide +kernel
theorem dX0_chooseBest_127 : decode cX0_chooseBest 127 = .ok (.iload 4, 2) := by decide +kernel
theorem dX0_chooseBest_129 : decode cX0_chooseBest 129 = .ok (.istore 6, 2) := by decide +kernel
theorem dX0_chooseBest_131 : decode cX0_chooseBest 131 = .ok (.aload_n 0, 1) := by decide +kernel
theorem dX0_chooseBest_132 : decode cX0_chooseBest 132 = .ok (.iload 5, 2) := by decide +kernel
theorem dX0_chooseBest_134 : decode cX0_chooseBest 134 = .ok (.iload 6, 2) := by decide +kernel
theorem dX0_chooseBest_136 : decode cX0_chooseBest 136 = .ok (.iload_n 2, 1) := by decide +kernel
theorem dX0_chooseBest_137 : decode cX0_chooseBest 137 = .ok (.iload_n 3, 1) := by decide +kernel
theorem dX0_chooseBest_138 : decode cX0_chooseBest 138 = .ok (.invokevirtual 49, 3) := by decide +kernel
theorem dX0_chooseBest_141 : decode cX0_chooseBest 141 = .ok (.ifCond .eq 13, 3) := by decide +kernel
theorem dX0_chooseBest_144 : decode cX0_chooseBest 144 = .ok (.aload_n 0, 1) := by decide +kernel
theorem dX0_chooseBest_145 : decode cX0_chooseBest 145 = .ok (.iload_n 2, 1) := by decide +kernel
theorem dX0_chooseBest_146 : decode cX0_chooseBest 146 = .ok (.iconst (-1), 1) := by decide +kernel
theorem dX0_chooseBest_147 : decode cX0_chooseBest 147 = .ok (.iload 5, 2) := by decide +kernel
theorem dX0_chooseBest_149 : decode cX0_chooseBest 149 = .ok (.iload 6, 2) := by decide +kernel
theorem dX0_chooseBest_151 : decode cX0_chooseBest 151 = .ok (.invokevirtual 45, 3) := by decide +kernel
theorem dX0_chooseBest_154 : decode cX0_chooseBest 154 = .ok (.return_, 1) := by decide +kernel
theorem dX0_settle_0 : decode cX0_settle 0 = .ok (.aload_n 0, 1) := by decide +kernel
theorem dX0_settle_1 : decode cX0_settle 1 = .ok (.getfield 23, 3) := by decide +kernel
theorem dX0_settle_4 : decode cX0_settle 4 = .ok (.iload_n 1, 1) := by decide +kernel
theorem dX0_settle_5 : decode cX0_settle 5 = .ok (.iload_n 2, 1) := by decide +kernel
theorem dX0_settle_6 : decode cX0_settle 6 = .ok (.invokevirtual 62, 3) := by decide +kernel
theorem dX0_settle_9 : decode cX0_settle 9 = .ok (.aload_n 0, 1) := by decide +kernel
theorem dX0_settle_10 : decode cX0_settle 10 = .ok (.getfield 14, 3) := by decide +kernel
theorem dX0_settle_13 : decode cX0_settle 13 = .ok (.iload_n 1, 1) := by decide +kernel
theorem dX0_settle_14 : decode cX0_settle 14 = .ok (.iload_n 3, 1) := by decide +kernel
theorem dX0_settle_15 : decode cX0_settle 15 = .ok (.invokevirtual 62, 3) := by decide +kernel
theorem dX0_settle_18 : decode cX0_settle 18 = .ok (.aload_n 0, 1) := by decide +kernel
theorem dX0_settle_19 : decode cX0_settle 19 = .ok (.getfield 20, 3) := by decide +kernel
theorem dX0_settle_22 : decode cX0_settle 22 = .ok (.iload_n 1, 1) := by decide +kernel
theorem dX0_settle_23 : decode cX0_settle 23 = .ok (.iload 4, 2) := by decide +kernel
theorem dX0_settle_25 : decode cX0_settle 25 = .ok (.invokevirtual 62, 3) := by decide +kernel
theorem dX0_settle_28 : decode cX0_settle 28 = .ok (.return_, 1) := by decide +kernel
theorem dX0_isBetter_0 : decode cX0_isBetter 0 = .ok (.aload_n 0, 1) := by decide +kernel
theorem dX0_isBetter_1 : decode cX0_isBetter 1 = .ok (.getfield 20, 3) := by decide +kernel
theorem dX0_isBetter_4 : decode cX0_isBetter 4 = .ok (.iload_n 3, 1) := by decide +kernel
theorem dX0_isBetter_5 : decode cX0_isBetter 5 = .ok (.invokevirtual 42, 3) := by decide +kernel
theorem dX0_isBetter_8 : decode cX0_isBetter 8 = .ok (.ifCond .ne 5, 3) := by decide +kernel
theorem dX0_isBetter_11 : decode cX0_isBetter 11 = .ok (.iconst 1, 1) := by decide +kernel
theorem dX0_isBetter_12 : decode cX0_isBetter 12 = .ok (.ireturn, 1) := by decide +kernel
theorem dX0_isBetter_13 : decode cX0_isBetter 13 = .ok (.iload_n 1, 1) := by decide +kernel
theorem dX0_isBetter_14 : decode cX0_isBetter 14 = .ok (.aload_n 0, 1) := by decide +kernel
theorem dX0_isBetter_15 : decode cX0_isBetter 15 = .ok (.getfield 20, 3) := by decide +kernel
theorem dX0_isBetter_18 : decode cX0_isBetter 18 = .ok (.iload_n 3, 1) := by decide +kernel
theorem dX0_isBetter_19 : decode cX0_isBetter 19 = .ok (.invokevirtual 42, 3) := by decide +kernel
theorem dX0_isBetter_22 : decode cX0_isBetter 22 = .ok (.imul, 1) := by decide +kernel
theorem dX0_isBetter_23 : decode cX0_isBetter 23 = .ok (.istore 5, 2) := by decide +kernel
theorem dX0_isBetter_25 : decode cX0_isBetter 25 = .ok (.aload_n 0, 1) := by decide +kernel
theorem dX0_isBetter_26 : decode cX0_isBetter 26 = .ok (.getfield 14, 3) := by decide +kernel
theorem dX0_isBetter_29 : decode cX0_isBetter 29 = .ok (.iload_n 3, 1) := by decide +kernel
theorem dX0_isBetter_30 : decode cX0_isBetter 30 = .ok (.invokevirtual 42, 3) := by decide +kernel
theorem dX0_isBetter_33 : decode cX0_isBetter 33 = .ok (.iload_n 2, 1) := by decide +kernel
theorem dX0_isBetter_34 : decode cX0_isBetter 34 = .ok (.imul, 1) := by decide +kernel
theorem dX0_isBetter_35 : decode cX0_isBetter 35 = .ok (.istore 6, 2) := by decide +kernel
theorem dX0_isBetter_37 : decode cX0_isBetter 37 = .ok (.iload 4, 2) := by decide +kernel
theorem dX0_isBetter_39 : decode cX0_isBetter 39 = .ok (.ifCond .eq 18, 3) := by decide +kernel
theorem dX0_isBetter_42 : decode cX0_isBetter 42 = .ok (.iload 5, 2) := by decide +kernel
theorem dX0_isBetter_44 : decode cX0_isBetter 44 = .ok (.iload 6, 2) := by decide +kernel
theorem dX0_isBetter_46 : decode cX0_isBetter 46 = .ok (.if_icmp .ge 7, 3) := by decide +kernel
theorem dX0_isBetter_49 : decode cX0_isBetter 49 = .ok (.iconst 1, 1) := by decide +kernel
theorem dX0_isBetter_50 : decode cX0_isBetter 50 = .ok (.goto 19, 3) := by decide +kernel
theorem dX0_isBetter_53 : decode cX0_isBetter 53 = .ok (.iconst 0, 1) := by decide +kernel
theorem dX0_isBetter_54 : decode cX0_isBetter 54 = .ok (.goto 15, 3) := by decide +kernel
theorem dX0_isBetter_57 : decode cX0_isBetter 57 = .ok (.iload 5, 2) := by decide +kernel
theorem dX0_isBetter_59 : decode cX0_isBetter 59 = .ok (.iload 6, 2) := by decide +kernel
theorem dX0_isBetter_61 : decode cX0_isBetter 61 = .ok (.if_icmp .le 7, 3) := by decide +kernel
theorem dX0_isBetter_64 : decode cX0_isBetter 64 = .ok (.iconst 1, 1) := by decide +kernel
theorem dX0_isBetter_65 : decode cX0_isBetter 65 = .ok (.goto 4, 3) := by decide +kernel
theorem dX0_isBetter_68 : decode cX0_isBetter 68 = .ok (.iconst 0, 1) := by decide +kernel
theorem dX0_isBetter_69 : decode cX0_isBetter 69 = .ok (.ireturn, 1) := by decide +kernel
theorem dX1_init_0 : decode cX1_init 0 = .ok (.aload_n 0, 1) := by decide +kernel
theorem dX1_init_1 : decode cX1_init 1 = .ok (.invokespecial 3, 3) := by decide +kernel
theorem dX1_init_4 : decode cX1_init 4 = .ok (.aload_n 0, 1) := by decide +kernel
theorem dX1_init_5 : decode cX1_init 5 = .ok (.new 9, 3) := by decide +kernel
theorem dX1_init_8 : decode cX1_init 8 = .ok (.dup, 1) := by decide +kernel
theorem dX1_init_9 : decode cX1_init 9 = .ok (.bipush 8, 2) := by decide +kernel
theorem dX1_init_11 : decode cX1_init 11 = .ok (.invokespecial 11, 3) := by decide +kernel
theorem dX1_init_14 : decode cX1_init 14 = .ok (.putfield 14, 3) := by decide +kernel
theorem dX1_init_17 : decode cX1_init 17 = .ok (.aload_n 0, 1) := by decide +kernel
theorem dX1_init_18 : decode cX1_init 18 = .ok (.new 9, 3) := by decide +kernel
theorem dX1_init_21 : decode cX1_init 21 = .ok (.dup, 1) := by decide +kernel
theorem dX1_init_22 : decode cX1_init 22 = .ok (.bipush 8, 2) := by decide +kernel
theorem dX1_init_24 : decode cX1_init 24 = .ok (.invokespecial 11, 3) := by decide +kernel
theorem dX1_init_27 : decode cX1_init 27 = .ok (.putfield 20, 3) := by decide +kernel
theorem dX1_init_30 : decode cX1_init 30 = .ok (.aload_n 0, 1) := by decide +kernel
theorem dX1_init_31 : decode cX1_init 31 = .ok (.new 9, 3) := by decide +kernel
theorem dX1_init_34 : decode cX1_init 34 = .ok (.dup, 1) := by decide +kernel
theorem dX1_init_35 : decode cX1_init 35 = .ok (.bipush 8, 2) := by decide +kernel
theorem dX1_init_37 : decode cX1_init 37 = .ok (.invokespecial 11, 3) := by decide +kernel
theorem dX1_init_40 : decode cX1_init 40 = .ok (.putfield 23, 3) := by decide +kernel
theorem dX1_init_43 : decode cX1_init 43 = .ok (.return_, 1) := by decide +kernel
theorem dX1_add_0 : decode cX1_add 0 = .ok (.aload_n 0, 1) := by decide +kernel
theorem dX1_add_1 : decode cX1_add 1 = .ok (.getfield 26, 3) := by decide +kernel
theorem dX1_add_4 : decode cX1_add 4 = .ok (.bipush 8, 2) := by decide +kernel
theorem dX1_add_6 : decode cX1_add 6 = .ok (.if_icmp .lt 30, 3) := by decide +kernel
theorem dX1_add_9 : decode cX1_add 9 = .ok (.aload_n 0, 1) := by decide +kernel
theorem dX1_add_10 : decode cX1_add 10 = .ok (.getfield 14, 3) := by decide +kernel
theorem dX1_add_13 : decode cX1_add 13 = .ok (.invokevirtual 30, 3) := by decide +kernel
theorem dX1_add_16 : decode cX1_add 16 = .ok (.aload_n 0, 1) := by decide +kernel
theorem dX1_add_17 : decode cX1_add 17 = .ok (.getfield 20, 3) := by decide +kernel
theorem dX1_add_20 : decode cX1_add 20 = .ok (.invokevirtual 30, 3) := by decide +kernel
theorem dX1_add_23 : decode cX1_add 23 = .ok (.aload_n 0, 1) := by decide +kernel
theorem dX1_add_24 : decode cX1_add 24 = .ok (.getfield 23, 3) := by decide +kernel
theorem dX1_add_27 : decode cX1_add 27 = .ok (.invokevirtual 30, 3) := by decide +kernel
theorem dX1_add_30 : decode cX1_add 30 = .ok (.aload_n 0, 1) := by decide +kernel
theorem dX1_add_31 : decode cX1_add 31 = .ok (.bipush 7, 2) := by decide +kernel
theorem dX1_add_33 : decode cX1_add 33 = .ok (.putfield 26, 3) := by decide +kernel
theorem dX1_add_36 : decode cX1_add 36 = .ok (.aload_n 0, 1) := by decide +kernel
theorem dX1_add_37 : decode cX1_add 37 = .ok (.getfield 14, 3) := by decide +kernel
theorem dX1_add_40 : decode cX1_add 40 = .ok (.aload_n 0, 1) := by decide +kernel
theorem dX1_add_41 : decode cX1_add 41 = .ok (.getfield 26, 3) := by decide +kernel
theorem dX1_add_44 : decode cX1_add 44 = .ok (.iload_n 1, 1) := by decide +kernel
theorem dX1_add_45 : decode cX1_add 45 = .ok (.invokevirtual 33, 3) := by decide +kernel
theorem dX1_add_48 : decode cX1_add 48 = .ok (.aload_n 0, 1) := by decide +kernel
theorem dX1_add_49 : decode cX1_add 49 = .ok (.getfield 20, 3) := by decide +kernel
theorem dX1_add_52 : decode cX1_add 52 = .ok (.aload_n 0, 1) := by decide +kernel
theorem dX1_add_53 : decode cX1_add 53 = .ok (.getfield 26, 3) := by decide +kernel
theorem dX1_add_56 : decode cX1_add 56 = .ok (.iload_n 2, 1) := by decide +kernel
theorem dX1_add_57 : decode cX1_add 57 = .ok (.invokevirtual 33, 3) := by decide +kernel
theorem dX1_add_60 : decode cX1_add 60 = .ok (.aload_n 0, 1) := by decide +kernel
theorem dX1_add_61 : decode cX1_add 61 = .ok (.getfield 23, 3) := by decide +kernel
theorem dX1_add_64 : decode cX1_add 64 = .ok (.aload_n 0, 1) := by decide +kernel
theorem dX1_add_65 : decode cX1_add 65 = .ok (.getfield 26, 3) := by decide +kernel
theorem dX1_add_68 : decode cX1_add 68 = .ok (.iload_n 3, 1) := by decide +kernel
theorem dX1_add_69 : decode cX1_add 69 = .ok (.invokevirtual 33, 3) := by decide +kernel
theorem dX1_add_72 : decode cX1_add 72 = .ok (.aload_n 0, 1) := by decide +kernel
theorem dX1_add_73 : decode cX1_add 73 = .ok (.dup, 1) := by decide +kernel
theorem dX1_add_74 : decode cX1_add 74 = .ok (.getfield 26, 3) := by decide +kernel
theorem dX1_add_77 : decode cX1_add 77 = .ok (.iconst 1, 1) := by decide +kernel
theorem dX1_add_78 : decode cX1_add 78 = .ok (.iadd, 1) := by decide +kernel
theorem dX1_add_79 : decode cX1_add 79 = .ok (.putfield 26, 3) := by decide +kernel
theorem dX1_add_82 : decode cX1_add 82 = .ok (.return_, 1) := by decide +kernel
theorem dX1_undoLatest_0 : decode cX1_undoLatest 0 = .ok (.aload_n 0, 1) := by decide +kernel
theorem dX1_undoLatest_1 : decode cX1_undoLatest 1 = .ok (.dup, 1) := by decide +kernel
theorem dX1_undoLatest_2 : decode cX1_undoLatest 2 = .ok (.getfield 26, 3) := by decide +kernel
theorem dX1_undoLatest_5 : decode cX1_undoLatest 5 = .ok (.iconst 1, 1) := by decide +kernel
theorem dX1_undoLatest_6 : decode cX1_undoLatest 6 = .ok (.isub, 1) := by decide +kernel
theorem dX1_undoLatest_7 : decode cX1_undoLatest 7 = .ok (.putfield 26, 3) := by decide +kernel
theorem dX1_undoLatest_10 : decode cX1_undoLatest 10 = .ok (.aload_n 0, 1) := by decide +kernel
theorem dX1_undoLatest_11 : decode cX1_undoLatest 11 = .ok (.getfield 14, 3) := by decide +kernel
theorem dX1_undoLatest_14 : decode cX1_undoLatest 14 = .ok (.aload_n 0, 1) := by decide +kernel
theorem dX1_undoLatest_15 : decode cX1_undoLatest 15 = .ok (.getfield 26, 3) := by decide +kernel
theorem dX1_undoLatest_18 : decode cX1_undoLatest 18 = .ok (.invokevirtual 37, 3) := by decide +kernel
theorem dX1_undoLatest_21 : decode cX1_undoLatest 21 = .ok (.istore_n 2, 1) := by decide +kernel
theorem dX1_undoLatest_22 : decode cX1_undoLatest 22 = .ok (.aload_n 0, 1) := by decide +kernel
theorem dX1_undoLatest_23 : decode cX1_undoLatest 23 = .ok (.getfield 23, 3) := by decide +kernel
theorem dX1_undoLatest_26 : decode cX1_undoLatest 26 = .ok (.aload_n 0, 1) := by decide +kernel
theorem dX1_undoLatest_27 : decode cX1_undoLatest 27 = .ok (.getfield 26, 3) := by decide +kernel
theorem dX1_undoLatest_30 : decode cX1_undoLatest 30 = .ok (.invokevirtual 37, 3) := by decide +kernel
theorem dX1_undoLatest_33 : decode cX1_undoLatest 33 = .ok (.istore_n 3, 1) := by decide +kernel
theorem dX1_undoLatest_34 : decode cX1_undoLatest 34 = .ok (.iload_n 2, 1) := by decide +kernel
theorem dX1_undoLatest_35 : decode cX1_undoLatest 35 = .ok (.ifCond .ne 22, 3) := by decide +kernel
theorem dX1_undoLatest_38 : decode cX1_undoLatest 38 = .ok (.aload_n 1, 1) := by decide +kernel
theorem dX1_undoLatest_39 : decode cX1_undoLatest 39 = .ok (.aload_n 0, 1) := by decide +kernel
theorem dX1_undoLatest_40 : decode cX1_undoLatest 40 = .ok (.getfield 20, 3) := by decide +kernel
theorem dX1_undoLatest_43 : decode cX1_undoLatest 43 = .ok (.aload_n 0, 1) := by decide +kernel
theorem dX1_undoLatest_44 : decode cX1_undoLatest 44 = .ok (.getfield 26, 3) := by decide +kernel
theorem dX1_undoLatest_47 : decode cX1_undoLatest 47 = .ok (.invokevirtual 37, 3) := by decide +kernel
theorem dX1_undoLatest_50 : decode cX1_undoLatest 50 = .ok (.iload_n 3, 1) := by decide +kernel
theorem dX1_undoLatest_51 : decode cX1_undoLatest 51 = .ok (.invokevirtual 41, 3) := by decide +kernel
theorem dX1_undoLatest_54 : decode cX1_undoLatest 54 = .ok (.goto 35, 3) := by decide +kernel
theorem dX1_undoLatest_57 : decode cX1_undoLatest 57 = .ok (.iload_n 2, 1) := by decide +kernel
theorem dX1_undoLatest_58 : decode cX1_undoLatest 58 = .ok (.iconst 1, 1) := by decide +kernel
theorem dX1_undoLatest_59 : decode cX1_undoLatest 59 = .ok (.if_icmp .ne 25, 3) := by decide +kernel
theorem dX1_undoLatest_62 : decode cX1_undoLatest 62 = .ok (.aload_n 1, 1) := by decide +kernel
theorem dX1_undoLatest_63 : decode cX1_undoLatest 63 = .ok (.getfield 46, 3) := by decide +kernel
theorem dX1_undoLatest_66 : decode cX1_undoLatest 66 = .ok (.aload_n 0, 1) := by decide +kernel
theorem dX1_undoLatest_67 : decode cX1_undoLatest 67 = .ok (.getfield 20, 3) := by decide +kernel
theorem dX1_undoLatest_70 : decode cX1_undoLatest 70 = .ok (.aload_n 0, 1) := by decide +kernel
theorem dX1_undoLatest_71 : decode cX1_undoLatest 71 = .ok (.getfield 26, 3) := by decide +kernel
theorem dX1_undoLatest_74 : decode cX1_undoLatest 74 = .ok (.invokevirtual 37, 3) := by decide +kernel
theorem dX1_undoLatest_77 : decode cX1_undoLatest 77 = .ok (.iload_n 3, 1) := by decide +kernel
theorem dX1_undoLatest_78 : decode cX1_undoLatest 78 = .ok (.invokevirtual 33, 3) := by decide +kernel
theorem dX1_undoLatest_81 : decode cX1_undoLatest 81 = .ok (.goto 8, 3) := by decide +kernel
theorem dX1_undoLatest_84 : decode cX1_undoLatest 84 = .ok (.aload_n 1, 1) := by decide +kernel
theorem dX1_undoLatest_85 : decode cX1_undoLatest 85 = .ok (.iload_n 3, 1) := by decide +kernel
theorem dX1_undoLatest_86 : decode cX1_undoLatest 86 = .ok (.putfield 49, 3) := by decide +kernel
theorem dX1_undoLatest_89 : decode cX1_undoLatest 89 = .ok (.return_, 1) := by decide +kernel
theorem dX2_init_0 : decode cX2_init 0 = .ok (.aload_n 0, 1) := by decide +kernel
theorem dX2_init_1 : decode cX2_init 1 = .ok (.invokespecial 3, 3) := by decide +kernel
theorem dX2_init_4 : decode cX2_init 4 = .ok (.aload_n 0, 1) := by decide +kernel
theorem dX2_init_5 : decode cX2_init 5 = .ok (.new 9, 3) := by decide +kernel
theorem dX2_init_8 : decode cX2_init 8 = .ok (.dup, 1) := by decide +kernel
theorem dX2_init_9 : decode cX2_init 9 = .ok (.invokespecial 11, 3) := by decide +kernel
theorem dX2_init_12 : decode cX2_init 12 = .ok (.putfield 12, 3) := by decide +kernel
theorem dX2_init_15 : decode cX2_init 15 = .ok (.aload_n 0, 1) := by decide +kernel
theorem dX2_init_16 : decode cX2_init 16 = .ok (.aload_n 1, 1) := by decide +kernel
theorem dX2_init_17 : decode cX2_init 17 = .ok (.putfield 18, 3) := by decide +kernel
theorem dX2_init_20 : decode cX2_init 20 = .ok (.return_, 1) := by decide +kernel
theorem dX2_read_0 : decode cX2_read 0 = .ok (.aload_n 0, 1) := by decide +kernel
theorem dX2_read_1 : decode cX2_read 1 = .ok (.getfield 12, 3) := by decide +kernel
theorem dX2_read_4 : decode cX2_read 4 = .ok (.aload_n 1, 1) := by decide +kernel
theorem dX2_read_5 : decode cX2_read 5 = .ok (.invokevirtual 22, 3) := by decide +kernel
theorem dX2_read_8 : decode cX2_read 8 = .ok (.aload_n 0, 1) := by decide +kernel
theorem dX2_read_9 : decode cX2_read 9 = .ok (.iconst 0, 1) := by decide +kernel
theorem dX2_read_10 : decode cX2_read 10 = .ok (.putfield 26, 3) := by decide +kernel
theorem dX2_read_13 : decode cX2_read 13 = .ok (.aload_n 0, 1) := by decide +kernel
theorem dX2_read_14 : decode cX2_read 14 = .ok (.iconst (-1), 1) := by decide +kernel
theorem dX2_read_15 : decode cX2_read 15 = .ok (.putfield 30, 3) := by decide +kernel
theorem dX2_read_18 : decode cX2_read 18 = .ok (.aload_n 0, 1) := by decide +kernel
theorem dX2_read_19 : decode cX2_read 19 = .ok (.getfield 18, 3) := by decide +kernel
theorem dX2_read_22 : decode cX2_read 22 = .ok (.invokevirtual 33, 3) := by decide +kernel
theorem dX2_read_25 : decode cX2_read 25 = .ok (.aload_n 0, 1) := by decide +kernel
theorem dX2_read_26 : decode cX2_read 26 = .ok (.getfield 26, 3) := by decide +kernel
theorem dX2_read_29 : decode cX2_read 29 = .ok (.bipush 14, 2) := by decide +kernel
theorem dX2_read_31 : decode cX2_read 31 = .ok (.if_icmp .ge 79, 3) := by decide +kernel
theorem dX2_read_34 : decode cX2_read 34 = .ok (.aload_n 0, 1) := by decide +kernel
theorem dX2_read_35 : decode cX2_read 35 = .ok (.invokevirtual 38, 3) := by decide +kernel
theorem dX2_read_38 : decode cX2_read 38 = .ok (.aload_n 0, 1) := by decide +kernel
theorem dX2_read_39 : decode cX2_read 39 = .ok (.dup, 1) := by decide +kernel
theorem dX2_read_40 : decode cX2_read 40 = .ok (.getfield 26, 3) := by decide +kernel
theorem dX2_read_43 : decode cX2_read 43 = .ok (.iconst 1, 1) := by decide +kernel
theorem dX2_read_44 : decode cX2_read 44 = .ok (.iadd, 1) := by decide +kernel
theorem dX2_read_45 : decode cX2_read 45 = .ok (.putfield 26, 3) := by decide +kernel
theorem dX2_read_48 : decode cX2_read 48 = .ok (.aload_n 0, 1) := by decide +kernel
theorem dX2_read_49 : decode cX2_read 49 = .ok (.getfield 30, 3) := by decide +kernel
theorem dX2_read_52 : decode cX2_read 52 = .ok (.iconst (-1), 1) := by decide +kernel
theorem dX2_read_53 : decode cX2_read 53 = .ok (.if_icmp .ne 13, 3) := by decide +kernel
theorem dX2_read_56 : decode cX2_read 56 = .ok (.aload_n 0, 1) := by decide +kernel
theorem dX2_read_57 : decode cX2_read 57 = .ok (.getfield 18, 3) := by decide +kernel
theorem dX2_read_60 : decode cX2_read 60 = .ok (.invokevirtual 41, 3) := by decide +kernel
theorem dX2_read_63 : decode cX2_read 63 = .ok (.ifCond .eq 4, 3) := by decide +kernel
theorem dX2_read_66 : decode cX2_read 66 = .ok (.return_, 1) := by decide +kernel
theorem dX2_read_67 : decode cX2_read 67 = .ok (.aload_n 0, 1) := by decide +kernel
theorem dX2_read_68 : decode cX2_read 68 = .ok (.getfield 26, 3) := by decide +kernel
theorem dX2_read_71 : decode cX2_read 71 = .ok (.bipush 14, 2) := by decide +kernel
theorem dX2_read_73 : decode cX2_read 73 = .ok (.if_icmp .eq 15, 3) := by decide +kernel
theorem dX2_read_76 : decode cX2_read 76 = .ok (.aload_n 0, 1) := by decide +kernel
theorem dX2_read_77 : decode cX2_read 77 = .ok (.getfield 18, 3) := by decide +kernel
theorem dX2_read_80 : decode cX2_read 80 = .ok (.ldc 45, 2) := by decide +kernel
theorem dX2_read_82 : decode cX2_read 82 = .ok (.invokevirtual 47, 3) := by decide +kernel
theorem dX2_read_85 : decode cX2_read 85 = .ok (.ifCond .ne 15, 3) := by decide +kernel
theorem dX2_read_88 : decode cX2_read 88 = .ok (.aload_n 0, 1) := by decide +kernel
theorem dX2_read_89 : decode cX2_read 89 = .ok (.aload_n 0, 1) := by decide +kernel
theorem dX2_read_90 : decode cX2_read 90 = .ok (.getfield 18, 3) := by decide +kernel
theorem dX2_read_93 : decode cX2_read 93 = .ok (.getfield 51, 3) := by decide +kernel
theorem dX2_read_96 : decode cX2_read 96 = .ok (.putfield 30, 3) := by decide +kernel
theorem dX2_read_99 : decode cX2_read 99 = .ok (.return_, 1) := by decide +kernel
theorem dX2_read_100 : decode cX2_read 100 = .ok (.aload_n 0, 1) := by decide +kernel
theorem dX2_read_101 : decode cX2_read 101 = .ok (.getfield 18, 3) := by decide +kernel
theorem dX2_read_104 : decode cX2_read 104 = .ok (.invokevirtual 54, 3) := by decide +kernel
theorem dX2_read_107 : decode cX2_read 107 = .ok (.goto (-82), 3) := by decide +kernel
theorem dX2_read_110 : decode cX2_read 110 = .ok (.return_, 1) := by decide +kernel
theorem dX2_readClause_0 : decode cX2_readClause 0 = .ok (.aload_n 0, 1) := by decide +kernel
theorem dX2_readClause_1 : decode cX2_readClause 1 = .ok (.getfield 18, 3) := by decide +kernel
theorem dX2_readClause_4 : decode cX2_readClause 4 = .ok (.ldc 57, 2) := by decide +kernel
theorem dX2_readClause_6 : decode cX2_readClause 6 = .ok (.invokevirtual 47, 3) := by decide +kernel
theorem dX2_readClause_9 : decode cX2_readClause 9 = .ok (.ifCond .eq 10, 3) := by decide +kernel
theorem dX2_readClause_12 : decode cX2_readClause 12 = .ok (.aload_n 0, 1) := by decide +kernel
theorem dX2_readClause_13 : decode cX2_readClause 13 = .ok (.invokevirtual 59, 3) := by decide +kernel
theorem dX2_readClause_16 : decode cX2_readClause 16 = .ok (.goto 78, 3) := by decide +kernel
theorem dX2_readClause_19 : decode cX2_readClause 19 = .ok (.aload_n 0, 1) := by decide +kernel
theorem dX2_readClause_20 : decode cX2_readClause 20 = .ok (.getfield 18, 3) := by decide +kernel
theorem dX2_readClause_23 : decode cX2_readClause 23 = .ok (.ldc 62, 2) := by decide +kernel
theorem dX2_readClause_25 : decode cX2_readClause 25 = .ok (.invokevirtual 47, 3) := by decide +kernel
theorem dX2_readClause_28 : decode cX2_readClause 28 = .ok (.ifCond .eq 10, 3) := by decide +kernel
theorem dX2_readClause_31 : decode cX2_readClause 31 = .ok (.aload_n 0, 1) := by decide +kernel
theorem dX2_readClause_32 : decode cX2_readClause 32 = .ok (.invokevirtual 64, 3) := by decide +kernel
theorem dX2_readClause_35 : decode cX2_readClause 35 = .ok (.goto 59, 3) := by decide +kernel
theorem dX2_readClause_38 : decode cX2_readClause 38 = .ok (.aload_n 0, 1) := by decide +kernel
theorem dX2_readClause_39 : decode cX2_readClause 39 = .ok (.getfield 18, 3) := by decide +kernel
theorem dX2_readClause_42 : decode cX2_readClause 42 = .ok (.ldc 67, 2) := by decide +kernel
theorem dX2_readClause_44 : decode cX2_readClause 44 = .ok (.invokevirtual 47, 3) := by decide +kernel
theorem dX2_readClause_47 : decode cX2_readClause 47 = .ok (.ifCond .eq 10, 3) := by decide +kernel
theorem dX2_readClause_50 : decode cX2_readClause 50 = .ok (.aload_n 0, 1) := by decide +kernel
theorem dX2_readClause_51 : decode cX2_readClause 51 = .ok (.invokevirtual 69, 3) := by decide +kernel
theorem dX2_readClause_54 : decode cX2_readClause 54 = .ok (.goto 40, 3) := by decide +kernel
theorem dX2_readClause_57 : decode cX2_readClause 57 = .ok (.aload_n 0, 1) := by decide +kernel
theorem dX2_readClause_58 : decode cX2_readClause 58 = .ok (.getfield 18, 3) := by decide +kernel
theorem dX2_readClause_61 : decode cX2_readClause 61 = .ok (.ldc 72, 2) := by decide +kernel
theorem dX2_readClause_63 : decode cX2_readClause 63 = .ok (.invokevirtual 47, 3) := by decide +kernel
theorem dX2_readClause_66 : decode cX2_readClause 66 = .ok (.ifCond .eq 20, 3) := by decide +kernel
theorem dX2_readClause_69 : decode cX2_readClause 69 = .ok (.aload_n 0, 1) := by decide +kernel
theorem dX2_readClause_70 : decode cX2_readClause 70 = .ok (.getfield 18, 3) := by decide +kernel
theorem dX2_readClause_73 : decode cX2_readClause 73 = .ok (.invokevirtual 54, 3) := by decide +kernel
theorem dX2_readClause_76 : decode cX2_readClause 76 = .ok (.aload_n 0, 1) := by decide +kernel
theorem dX2_readClause_77 : decode cX2_readClause 77 = .ok (.getfield 12, 3) := by decide +kernel
theorem dX2_readClause_80 : decode cX2_readClause 80 = .ok (.invokevirtual 74, 3) := by decide +kernel
theorem dX2_readClause_83 : decode cX2_readClause 83 = .ok (.goto 11, 3) := by decide +kernel
theorem dX2_readClause_86 : decode cX2_readClause 86 = .ok (.aload_n 0, 1) := by decide +kernel
theorem dX2_readClause_87 : decode cX2_readClause 87 = .ok (.aload_n 0, 1) := by decide +kernel
theorem dX2_readClause_88 : decode cX2_readClause 88 = .ok (.invokevirtual 77, 3) := by decide +kernel
theorem dX2_readClause_91 : decode cX2_readClause 91 = .ok (.invokevirtual 81, 3) := by decide +kernel
theorem dX2_readClause_94 : decode cX2_readClause 94 = .ok (.return_, 1) := by decide +kernel
theorem dX2_readRoad_0 : decode cX2_readRoad 0 = .ok (.aload_n 0, 1) := by decide +kernel
theorem dX2_readRoad_1 : decode cX2_readRoad 1 = .ok (.getfield 18, 3) := by decide +kernel
theorem dX2_readRoad_4 : decode cX2_readRoad 4 = .ok (.invokevirtual 54, 3) := by decide +kernel
theorem dX2_readRoad_7 : decode cX2_readRoad 7 = .ok (.aload_n 0, 1) := by decide +kernel
theorem dX2_readRoad_8 : decode cX2_readRoad 8 = .ok (.iconst 4, 1) := by decide +kernel
theorem dX2_readRoad_9 : decode cX2_readRoad 9 = .ok (.bipush 20, 2) := by decide +kernel
theorem dX2_readRoad_11 : decode cX2_readRoad 11 = .ok (.invokevirtual 85, 3) := by decide +kernel
theorem dX2_readRoad_14 : decode cX2_readRoad 14 = .ok (.istore_n 1, 1) := by decide +kernel
theorem dX2_readRoad_15 : decode cX2_readRoad 15 = .ok (.iload_n 1, 1) := by decide +kernel
theorem dX2_readRoad_16 : decode cX2_readRoad 16 = .ok (.iconst (-1), 1) := by decide +kernel
theorem dX2_readRoad_17 : decode cX2_readRoad 17 = .ok (.if_icmp .eq 11, 3) := by decide +kernel
theorem dX2_readRoad_20 : decode cX2_readRoad 20 = .ok (.aload_n 0, 1) := by decide +kernel
theorem dX2_readRoad_21 : decode cX2_readRoad 21 = .ok (.getfield 12, 3) := by decide +kernel
theorem dX2_readRoad_24 : decode cX2_readRoad 24 = .ok (.iload_n 1, 1) := by decide +kernel
theorem dX2_readRoad_25 : decode cX2_readRoad 25 = .ok (.invokevirtual 89, 3) := by decide +kernel
theorem dX2_readRoad_28 : decode cX2_readRoad 28 = .ok (.return_, 1) := by decide +kernel
theorem dX2_readHill_0 : decode cX2_readHill 0 = .ok (.aload_n 0, 1) := by decide +kernel
theorem dX2_readHill_1 : decode cX2_readHill 1 = .ok (.getfield 18, 3) := by decide +kernel
theorem dX2_readHill_4 : decode cX2_readHill 4 = .ok (.invokevirtual 54, 3) := by decide +kernel
theorem dX2_readHill_7 : decode cX2_readHill 7 = .ok (.aload_n 0, 1) := by decide +kernel
theorem dX2_readHill_8 : decode cX2_readHill 8 = .ok (.iconst 1, 1) := by decide +kernel
theorem dX2_readHill_9 : decode cX2_readHill 9 = .ok (.aload_n 0, 1) := by decide +kernel
theorem dX2_readHill_10 : decode cX2_readHill 10 = .ok (.getfield 12, 3) := by decide +kernel
theorem dX2_readHill_13 : decode cX2_readHill 13 = .ok (.getfield 92, 3) := by decide +kernel
theorem dX2_readHill_16 : decode cX2_readHill 16 = .ok (.invokevirtual 85, 3) := by decide +kernel
theorem dX2_readHill_19 : decode cX2_readHill 19 = .ok (.istore_n 1, 1) := by decide +kernel
theorem dX2_readHill_20 : decode cX2_readHill 20 = .ok (.iload_n 1, 1) := by decide +kernel
theorem dX2_readHill_21 : decode cX2_readHill 21 = .ok (.iconst (-1), 1) := by decide +kernel
theorem dX2_readHill_22 : decode cX2_readHill 22 = .ok (.if_icmp .ne 7, 3) := by decide +kernel
theorem dX2_readHill_25 : decode cX2_readHill 25 = .ok (.iconst (-1), 1) := by decide +kernel
theorem dX2_readHill_26 : decode cX2_readHill 26 = .ok (.goto 15, 3) := by decide +kernel
theorem dX2_readHill_29 : decode cX2_readHill 29 = .ok (.aload_n 0, 1) := by decide +kernel
theorem dX2_readHill_30 : decode cX2_readHill 30 = .ok (.iload_n 1, 1) := by decide +kernel
theorem dX2_readHill_31 : decode cX2_readHill 31 = .ok (.aload_n 0, 1) := by decide +kernel
theorem dX2_readHill_32 : decode cX2_readHill 32 = .ok (.getfield 12, 3) := by decide +kernel
theorem dX2_readHill_35 : decode cX2_readHill 35 = .ok (.getfield 92, 3) := by decide +kernel
theorem dX2_readHill_38 : decode cX2_readHill 38 = .ok (.invokevirtual 85, 3) := by decide +kernel
theorem dX2_readHill_41 : decode cX2_readHill 41 = .ok (.istore_n 2, 1) := by decide +kernel
theorem dX2_readHill_42 : decode cX2_readHill 42 = .ok (.iload_n 2, 1) := by decide +kernel
theorem dX2_readHill_43 : decode cX2_readHill 43 = .ok (.iconst (-1), 1) := by decide +kernel
theorem dX2_readHill_44 : decode cX2_readHill 44 = .ok (.if_icmp .ne 7, 3) := by decide +kernel
theorem dX2_readHill_47 : decode cX2_readHill 47 = .ok (.iconst (-1), 1) := by decide +kernel
theorem dX2_readHill_48 : decode cX2_readHill 48 = .ok (.goto 10, 3) := by decide +kernel
theorem dX2_readHill_51 : decode cX2_readHill 51 = .ok (.aload_n 0, 1) := by decide +kernel
theorem dX2_readHill_52 : decode cX2_readHill 52 = .ok (.iconst 1, 1) := by decide +kernel
theorem dX2_readHill_53 : decode cX2_readHill 53 = .ok (.bipush 9, 2) := by decide +kernel
theorem dX2_readHill_55 : decode cX2_readHill 55 = .ok (.invokevirtual 85, 3) := by decide +kernel
theorem dX2_readHill_58 : decode cX2_readHill 58 = .ok (.istore_n 3, 1) := by decide +kernel
theorem dX2_readHill_59 : decode cX2_readHill 59 = .ok (.iload_n 3, 1) := by decide +kernel
theorem dX2_readHill_60 : decode cX2_readHill 60 = .ok (.iconst (-1), 1) := by decide +kernel
theorem dX2_readHill_61 : decode cX2_readHill 61 = .ok (.if_icmp .eq 13, 3) := by decide +kernel
theorem dX2_readHill_64 : decode cX2_readHill 64 = .ok (.aload_n 0, 1) := by decide +kernel
theorem dX2_readHill_65 : decode cX2_readHill 65 = .ok (.getfield 12, 3) := by decide +kernel
theorem dX2_readHill_68 : decode cX2_readHill 68 = .ok (.iload_n 1, 1) := by decide +kernel
theorem dX2_readHill_69 : decode cX2_readHill 69 = .ok (.iload_n 2, 1) := by decide +kernel
theorem dX2_readHill_70 : decode cX2_readHill 70 = .ok (.iload_n 3, 1) := by decide +kernel
theorem dX2_readHill_71 : decode cX2_readHill 71 = .ok (.invokevirtual 95, 3) := by decide +kernel
theorem dX2_readHill_74 : decode cX2_readHill 74 = .ok (.return_, 1) := by decide +kernel
theorem dX2_readMile_0 : decode cX2_readMile 0 = .ok (.aload_n 0, 1) := by decide +kernel
theorem dX2_readMile_1 : decode cX2_readMile 1 = .ok (.getfield 18, 3) := by decide +kernel
theorem dX2_readMile_4 : decode cX2_readMile 4 = .ok (.invokevirtual 54, 3) := by decide +kernel
theorem dX2_readMile_7 : decode cX2_readMile 7 = .ok (.aload_n 0, 1) := by decide +kernel
theorem dX2_readMile_8 : decode cX2_readMile 8 = .ok (.iconst 1, 1) := by decide +kernel
theorem dX2_readMile_9 : decode cX2_readMile 9 = .ok (.bipush 40, 2) := by decide +kernel
theorem dX2_readMile_11 : decode cX2_readMile 11 = .ok (.invokevirtual 85, 3) := by decide +kernel
theorem dX2_readMile_14 : decode cX2_readMile 14 = .ok (.istore_n 1, 1) := by decide +kernel
theorem dX2_readMile_15 : decode cX2_readMile 15 = .ok (.iload_n 1, 1) := by decide +kernel
theorem dX2_readMile_16 : decode cX2_readMile 16 = .ok (.iconst (-1), 1) := by decide +kernel
theorem dX2_readMile_17 : decode cX2_readMile 17 = .ok (.if_icmp .eq 11, 3) := by decide +kernel
theorem dX2_readMile_20 : decode cX2_readMile 20 = .ok (.aload_n 0, 1) := by decide +kernel
theorem dX2_readMile_21 : decode cX2_readMile 21 = .ok (.getfield 12, 3) := by decide +kernel
theorem dX2_readMile_24 : decode cX2_readMile 24 = .ok (.iload_n 1, 1) := by decide +kernel
theorem dX2_readMile_25 : decode cX2_readMile 25 = .ok (.putfield 99, 3) := by decide +kernel
theorem dX2_readMile_28 : decode cX2_readMile 28 = .ok (.return_, 1) := by decide +kernel
theorem dX2_readWalker_0 : decode cX2_readWalker 0 = .ok (.iload_n 1, 1) := by decide +kernel
theorem dX2_readWalker_1 : decode cX2_readWalker 1 = .ok (.iconst (-1), 1) := by decide +kernel
theorem dX2_readWalker_2 : decode cX2_readWalker 2 = .ok (.if_icmp .eq 15, 3) := by decide +kernel
theorem dX2_readWalker_5 : decode cX2_readWalker 5 = .ok (.aload_n 0, 1) := by decide +kernel
theorem dX2_readWalker_6 : decode cX2_readWalker 6 = .ok (.getfield 12, 3) := by decide +kernel
theorem dX2_readWalker_9 : decode cX2_readWalker 9 = .ok (.getfield 101, 3) := by decide +kernel
theorem dX2_readWalker_12 : decode cX2_readWalker 12 = .ok (.bipush 6, 2) := by decide +kernel
theorem dX2_readWalker_14 : decode cX2_readWalker 14 = .ok (.if_icmp .lt 15, 3) := by decide +kernel
theorem dX2_readWalker_17 : decode cX2_readWalker 17 = .ok (.aload_n 0, 1) := by decide +kernel
theorem dX2_readWalker_18 : decode cX2_readWalker 18 = .ok (.aload_n 0, 1) := by decide +kernel
theorem dX2_readWalker_19 : decode cX2_readWalker 19 = .ok (.getfield 18, 3) := by decide +kernel
theorem dX2_readWalker_22 : decode cX2_readWalker 22 = .ok (.getfield 51, 3) := by decide +kernel
theorem dX2_readWalker_25 : decode cX2_readWalker 25 = .ok (.putfield 30, 3) := by decide +kernel
theorem dX2_readWalker_28 : decode cX2_readWalker 28 = .ok (.return_, 1) := by decide +kernel
theorem dX2_readWalker_29 : decode cX2_readWalker 29 = .ok (.aload_n 0, 1) := by decide +kernel
theorem dX2_readWalker_30 : decode cX2_readWalker 30 = .ok (.getfield 18, 3) := by decide +kernel
theorem dX2_readWalker_33 : decode cX2_readWalker 33 = .ok (.invokevirtual 54, 3) := by decide +kernel
theorem dX2_readWalker_36 : decode cX2_readWalker 36 = .ok (.aload_n 0, 1) := by decide +kernel
theorem dX2_readWalker_37 : decode cX2_readWalker 37 = .ok (.iconst 1, 1) := by decide +kernel
theorem dX2_readWalker_38 : decode cX2_readWalker 38 = .ok (.bipush 9, 2) := by decide +kernel
theorem dX2_readWalker_40 : decode cX2_readWalker 40 = .ok (.invokevirtual 85, 3) := by decide +kernel
theorem dX2_readWalker_43 : decode cX2_readWalker 43 = .ok (.istore_n 2, 1) := by decide +kernel
theorem dX2_readWalker_44 : decode cX2_readWalker 44 = .ok (.iload_n 2, 1) := by decide +kernel
theorem dX2_readWalker_45 : decode cX2_readWalker 45 = .ok (.iconst (-1), 1) := by decide +kernel
theorem dX2_readWalker_46 : decode cX2_readWalker 46 = .ok (.if_icmp .eq 12, 3) := by decide +kernel
theorem dX2_readWalker_49 : decode cX2_readWalker 49 = .ok (.aload_n 0, 1) := by decide +kernel
theorem dX2_readWalker_50 : decode cX2_readWalker 50 = .ok (.getfield 12, 3) := by decide +kernel
theorem dX2_readWalker_53 : decode cX2_readWalker 53 = .ok (.iload_n 1, 1) := by decide +kernel
theorem dX2_readWalker_54 : decode cX2_readWalker 54 = .ok (.iload_n 2, 1) := by decide +kernel
theorem dX2_readWalker_55 : decode cX2_readWalker 55 = .ok (.invokevirtual 104, 3) := by decide +kernel
theorem dX2_readWalker_58 : decode cX2_readWalker 58 = .ok (.return_, 1) := by decide +kernel
theorem dX2_kindAtToken_0 : decode cX2_kindAtToken 0 = .ok (.aload_n 0, 1) := by decide +kernel
theorem dX2_kindAtToken_1 : decode cX2_kindAtToken 1 = .ok (.getfield 18, 3) := by decide +kernel
theorem dX2_kindAtToken_4 : decode cX2_kindAtToken 4 = .ok (.ldc 108, 2) := by decide +kernel
theorem dX2_kindAtToken_6 : decode cX2_kindAtToken 6 = .ok (.invokevirtual 47, 3) := by decide +kernel
theorem dX2_kindAtToken_9 : decode cX2_kindAtToken 9 = .ok (.ifCond .eq 5, 3) := by decide +kernel
theorem dX2_kindAtToken_12 : decode cX2_kindAtToken 12 = .ok (.iconst 0, 1) := by decide +kernel
theorem dX2_kindAtToken_13 : decode cX2_kindAtToken 13 = .ok (.ireturn, 1) := by decide +kernel
theorem dX2_kindAtToken_14 : decode cX2_kindAtToken 14 = .ok (.aload_n 0, 1) := by decide +kernel
theorem dX2_kindAtToken_15 : decode cX2_kindAtToken 15 = .ok (.getfield 18, 3) := by decide +kernel
theorem dX2_kindAtToken_18 : decode cX2_kindAtToken 18 = .ok (.ldc 110, 2) := by decide +kernel
theorem dX2_kindAtToken_20 : decode cX2_kindAtToken 20 = .ok (.invokevirtual 47, 3) := by decide +kernel
theorem dX2_kindAtToken_23 : decode cX2_kindAtToken 23 = .ok (.ifCond .eq 5, 3) := by decide +kernel
theorem dX2_kindAtToken_26 : decode cX2_kindAtToken 26 = .ok (.iconst 1, 1) := by decide +kernel
theorem dX2_kindAtToken_27 : decode cX2_kindAtToken 27 = .ok (.ireturn, 1) := by decide +kernel
theorem dX2_kindAtToken_28 : decode cX2_kindAtToken 28 = .ok (.aload_n 0, 1) := by decide +kernel
theorem dX2_kindAtToken_29 : decode cX2_kindAtToken 29 = .ok (.getfield 18, 3) := by decide +kernel
theorem dX2_kindAtToken_32 : decode cX2_kindAtToken 32 = .ok (.ldc 112, 2) := by decide +kernel
theorem dX2_kindAtToken_34 : decode cX2_kindAtToken 34 = .ok (.invokevirtual 47, 3) := by decide +kernel
theorem dX2_kindAtToken_37 : decode cX2_kindAtToken 37 = .ok (.ifCond .eq 5, 3) := by decide +kernel
theorem dX2_kindAtToken_40 : decode cX2_kindAtToken 40 = .ok (.iconst 2, 1) := by decide +kernel
theorem dX2_kindAtToken_41 : decode cX2_kindAtToken 41 = .ok (.ireturn, 1) := by decide +kernel
theorem dX2_kindAtToken_42 : decode cX2_kindAtToken 42 = .ok (.aload_n 0, 1) := by decide +kernel
theorem dX2_kindAtToken_43 : decode cX2_kindAtToken 43 = .ok (.getfield 18, 3) := by decide +kernel
theorem dX2_kindAtToken_46 : decode cX2_kindAtToken 46 = .ok (.ldc 114, 2) := by decide +kernel
theorem dX2_kindAtToken_48 : decode cX2_kindAtToken 48 = .ok (.invokevirtual 47, 3) := by decide +kernel
theorem dX2_kindAtToken_51 : decode cX2_kindAtToken 51 = .ok (.ifCond .eq 7, 3) := by decide +kernel
theorem dX2_kindAtToken_54 : decode cX2_kindAtToken 54 = .ok (.iconst 3, 1) := by decide +kernel
theorem dX2_kindAtToken_55 : decode cX2_kindAtToken 55 = .ok (.goto 4, 3) := by decide +kernel
theorem dX2_kindAtToken_58 : decode cX2_kindAtToken 58 = .ok (.iconst (-1), 1) := by decide +kernel
theorem dX2_kindAtToken_59 : decode cX2_kindAtToken 59 = .ok (.ireturn, 1) := by decide +kernel
theorem dX2_readNumber_0 : decode cX2_readNumber 0 = .ok (.aload_n 0, 1) := by decide +kernel
theorem dX2_readNumber_1 : decode cX2_readNumber 1 = .ok (.getfield 18, 3) := by decide +kernel
theorem dX2_readNumber_4 : decode cX2_readNumber 4 = .ok (.invokevirtual 116, 3) := by decide +kernel
theorem dX2_readNumber_7 : decode cX2_readNumber 7 = .ok (.istore_n 3, 1) := by decide +kernel
theorem dX2_readNumber_8 : decode cX2_readNumber 8 = .ok (.iload_n 3, 1) := by decide +kernel
theorem dX2_readNumber_9 : decode cX2_readNumber 9 = .ok (.iload_n 1, 1) := by decide +kernel
theorem dX2_readNumber_10 : decode cX2_readNumber 10 = .ok (.iload_n 2, 1) := by decide +kernel
theorem dX2_readNumber_11 : decode cX2_readNumber 11 = .ok (.invokestatic 119, 3) := by decide +kernel
theorem dX2_readNumber_14 : decode cX2_readNumber 14 = .ok (.ifCond .ne 16, 3) := by decide +kernel
theorem dX2_readNumber_17 : decode cX2_readNumber 17 = .ok (.aload_n 0, 1) := by decide +kernel
theorem dX2_readNumber_18 : decode cX2_readNumber 18 = .ok (.aload_n 0, 1) := by decide +kernel
theorem dX2_readNumber_19 : decode cX2_readNumber 19 = .ok (.getfield 18, 3) := by decide +kernel
theorem dX2_readNumber_22 : decode cX2_readNumber 22 = .ok (.getfield 51, 3) := by decide +kernel
theorem dX2_readNumber_25 : decode cX2_readNumber 25 = .ok (.putfield 30, 3) := by decide +kernel
theorem dX2_readNumber_28 : decode cX2_readNumber 28 = .ok (.iconst (-1), 1) := by decide +kernel
theorem dX2_readNumber_29 : decode cX2_readNumber 29 = .ok (.ireturn, 1) := by decide +kernel
theorem dX2_readNumber_30 : decode cX2_readNumber 30 = .ok (.aload_n 0, 1) := by decide +kernel
theorem dX2_readNumber_31 : decode cX2_readNumber 31 = .ok (.getfield 18, 3) := by decide +kernel
theorem dX2_readNumber_34 : decode cX2_readNumber 34 = .ok (.invokevirtual 54, 3) := by decide +kernel
theorem dX2_readNumber_37 : decode cX2_readNumber 37 = .ok (.iload_n 3, 1) := by decide +kernel
theorem dX2_readNumber_38 : decode cX2_readNumber 38 = .ok (.ireturn, 1) := by decide +kernel
theorem dX3_init_0 : decode cX3_init 0 = .ok (.aload_n 0, 1) := by decide +kernel
theorem dX3_init_1 : decode cX3_init 1 = .ok (.invokespecial 3, 3) := by decide +kernel
theorem dX3_init_4 : decode cX3_init 4 = .ok (.aload_n 0, 1) := by decide +kernel
theorem dX3_init_5 : decode cX3_init 5 = .ok (.new 9, 3) := by decide +kernel
theorem dX3_init_8 : decode cX3_init 8 = .ok (.dup, 1) := by decide +kernel
theorem dX3_init_9 : decode cX3_init 9 = .ok (.bipush 21, 2) := by decide +kernel
theorem dX3_init_11 : decode cX3_init 11 = .ok (.invokespecial 11, 3) := by decide +kernel
theorem dX3_init_14 : decode cX3_init 14 = .ok (.putfield 14, 3) := by decide +kernel
theorem dX3_init_17 : decode cX3_init 17 = .ok (.aload_n 0, 1) := by decide +kernel
theorem dX3_init_18 : decode cX3_init 18 = .ok (.new 9, 3) := by decide +kernel
theorem dX3_init_21 : decode cX3_init 21 = .ok (.dup, 1) := by decide +kernel
theorem dX3_init_22 : decode cX3_init 22 = .ok (.bipush 6, 2) := by decide +kernel
theorem dX3_init_24 : decode cX3_init 24 = .ok (.invokespecial 11, 3) := by decide +kernel
theorem dX3_init_27 : decode cX3_init 27 = .ok (.putfield 20, 3) := by decide +kernel
theorem dX3_init_30 : decode cX3_init 30 = .ok (.aload_n 0, 1) := by decide +kernel
theorem dX3_init_31 : decode cX3_init 31 = .ok (.new 9, 3) := by decide +kernel
theorem dX3_init_34 : decode cX3_init 34 = .ok (.dup, 1) := by decide +kernel
theorem dX3_init_35 : decode cX3_init 35 = .ok (.bipush 6, 2) := by decide +kernel
theorem dX3_init_37 : decode cX3_init 37 = .ok (.invokespecial 11, 3) := by decide +kernel
theorem dX3_init_40 : decode cX3_init 40 = .ok (.putfield 23, 3) := by decide +kernel
theorem dX3_init_43 : decode cX3_init 43 = .ok (.aload_n 0, 1) := by decide +kernel
theorem dX3_init_44 : decode cX3_init 44 = .ok (.bipush 12, 2) := by decide +kernel
theorem dX3_init_46 : decode cX3_init 46 = .ok (.invokevirtual 26, 3) := by decide +kernel
theorem dX3_init_49 : decode cX3_init 49 = .ok (.return_, 1) := by decide +kernel
theorem dX3_lay_0 : decode cX3_lay 0 = .ok (.aload_n 0, 1) := by decide +kernel
theorem dX3_lay_1 : decode cX3_lay 1 = .ok (.iload_n 1, 1) := by decide +kernel
theorem dX3_lay_2 : decode cX3_lay 2 = .ok (.putfield 29, 3) := by decide +kernel
theorem dX3_lay_5 : decode cX3_lay 5 = .ok (.aload_n 0, 1) := by decide +kernel
theorem dX3_lay_6 : decode cX3_lay 6 = .ok (.bipush 10, 2) := by decide +kernel
theorem dX3_lay_8 : decode cX3_lay 8 = .ok (.putfield 33, 3) := by decide +kernel
theorem dX3_lay_11 : decode cX3_lay 11 = .ok (.aload_n 0, 1) := by decide +kernel
theorem dX3_lay_12 : decode cX3_lay 12 = .ok (.invokevirtual 36, 3) := by decide +kernel
theorem dX3_lay_15 : decode cX3_lay 15 = .ok (.aload_n 0, 1) := by decide +kernel
theorem dX3_lay_16 : decode cX3_lay 16 = .ok (.iconst 1, 1) := by decide +kernel
theorem dX3_lay_17 : decode cX3_lay 17 = .ok (.iload_n 1, 1) := by decide +kernel
theorem dX3_lay_18 : decode cX3_lay 18 = .ok (.iconst 3, 1) := by decide +kernel
theorem dX3_lay_19 : decode cX3_lay 19 = .ok (.invokevirtual 39, 3) := by decide +kernel
theorem dX3_lay_22 : decode cX3_lay 22 = .ok (.return_, 1) := by decide +kernel
theorem dX3_raise_0 : decode cX3_raise 0 = .ok (.iload_n 1, 1) := by decide +kernel
theorem dX3_raise_1 : decode cX3_raise 1 = .ok (.istore 4, 2) := by decide +kernel
theorem dX3_raise_3 : decode cX3_raise 3 = .ok (.iload 4, 2) := by decide +kernel
theorem dX3_raise_5 : decode cX3_raise 5 = .ok (.iload_n 2, 1) := by decide +kernel
theorem dX3_raise_6 : decode cX3_raise 6 = .ok (.if_icmp .gt 19, 3) := by decide +kernel
theorem dX3_raise_9 : decode cX3_raise 9 = .ok (.aload_n 0, 1) := by decide +kernel
theorem dX3_raise_10 : decode cX3_raise 10 = .ok (.getfield 14, 3) := by decide +kernel
theorem dX3_raise_13 : decode cX3_raise 13 = .ok (.iload 4, 2) := by decide +kernel
theorem dX3_raise_15 : decode cX3_raise 15 = .ok (.iload_n 3, 1) := by decide +kernel
theorem dX3_raise_16 : decode cX3_raise 16 = .ok (.invokevirtual 43, 3) := by decide +kernel
theorem dX3_raise_19 : decode cX3_raise 19 = .ok (.iinc 4 1, 3) := by decide +kernel
theorem dX3_raise_22 : decode cX3_raise 22 = .ok (.goto (-19), 3) := by decide +kernel
theorem dX3_raise_25 : decode cX3_raise 25 = .ok (.return_, 1) := by decide +kernel
theorem dX3_leaveNobody_0 : decode cX3_leaveNobody 0 = .ok (.aload_n 0, 1) := by decide +kernel
theorem dX3_leaveNobody_1 : decode cX3_leaveNobody 1 = .ok (.iconst 0, 1) := by decide +kernel
theorem dX3_leaveNobody_2 : decode cX3_leaveNobody 2 = .ok (.putfield 47, 3) := by decide +kernel
theorem dX3_leaveNobody_5 : decode cX3_leaveNobody 5 = .ok (.aload_n 0, 1) := by decide +kernel
theorem dX3_leaveNobody_6 : decode cX3_leaveNobody 6 = .ok (.iconst 0, 1) := by decide +kernel
theorem dX3_leaveNobody_7 : decode cX3_leaveNobody 7 = .ok (.putfield 50, 3) := by decide +kernel
theorem dX3_leaveNobody_10 : decode cX3_leaveNobody 10 = .ok (.return_, 1) := by decide +kernel
theorem dX3_hire_0 : decode cX3_hire 0 = .ok (.aload_n 0, 1) := by decide +kernel
theorem dX3_hire_1 : decode cX3_hire 1 = .ok (.getfield 20, 3) := by decide +kernel
theorem dX3_hire_4 : decode cX3_hire 4 = .ok (.aload_n 0, 1) := by decide +kernel
theorem dX3_hire_5 : decode cX3_hire 5 = .ok (.getfield 47, 3) := by decide +kernel
theorem dX3_hire_8 : decode cX3_hire 8 = .ok (.iload_n 1, 1) := by decide +kernel
theorem dX3_hire_9 : decode cX3_hire 9 = .ok (.invokevirtual 43, 3) := by decide +kernel
theorem dX3_hire_12 : decode cX3_hire 12 = .ok (.aload_n 0, 1) := by decide +kernel
theorem dX3_hire_13 : decode cX3_hire 13 = .ok (.getfield 23, 3) := by decide +kernel
theorem dX3_hire_16 : decode cX3_hire 16 = .ok (.aload_n 0, 1) := by decide +kernel
theorem dX3_hire_17 : decode cX3_hire 17 = .ok (.getfield 47, 3) := by decide +kernel
theorem dX3_hire_20 : decode cX3_hire 20 = .ok (.iload_n 2, 1) := by decide +kernel
theorem dX3_hire_21 : decode cX3_hire 21 = .ok (.invokevirtual 43, 3) := by decide +kernel
theorem dX3_hire_24 : decode cX3_hire 24 = .ok (.aload_n 0, 1) := by decide +kernel
theorem dX3_hire_25 : decode cX3_hire 25 = .ok (.dup, 1) := by decide +kernel
theorem dX3_hire_26 : decode cX3_hire 26 = .ok (.getfield 47, 3) := by decide +kernel
theorem dX3_hire_29 : decode cX3_hire 29 = .ok (.iconst 1, 1) := by decide +kernel
theorem dX3_hire_30 : decode cX3_hire 30 = .ok (.iadd, 1) := by decide +kernel
theorem dX3_hire_31 : decode cX3_hire 31 = .ok (.putfield 47, 3) := by decide +kernel
theorem dX3_hire_34 : decode cX3_hire 34 = .ok (.return_, 1) := by decide +kernel
theorem dX3_take_0 : decode cX3_take 0 = .ok (.aload_n 0, 1) := by decide +kernel
theorem dX3_take_1 : decode cX3_take 1 = .ok (.aload_n 1, 1) := by decide +kernel
theorem dX3_take_2 : decode cX3_take 2 = .ok (.getfield 29, 3) := by decide +kernel
theorem dX3_take_5 : decode cX3_take 5 = .ok (.putfield 29, 3) := by decide +kernel
theorem dX3_take_8 : decode cX3_take 8 = .ok (.aload_n 0, 1) := by decide +kernel
theorem dX3_take_9 : decode cX3_take 9 = .ok (.aload_n 1, 1) := by decide +kernel
theorem dX3_take_10 : decode cX3_take 10 = .ok (.getfield 33, 3) := by decide +kernel
theorem dX3_take_13 : decode cX3_take 13 = .ok (.putfield 33, 3) := by decide +kernel
theorem dX3_take_16 : decode cX3_take 16 = .ok (.aload_n 0, 1) := by decide +kernel
theorem dX3_take_17 : decode cX3_take 17 = .ok (.aload_n 1, 1) := by decide +kernel
theorem dX3_take_18 : decode cX3_take 18 = .ok (.getfield 47, 3) := by decide +kernel
theorem dX3_take_21 : decode cX3_take 21 = .ok (.putfield 47, 3) := by decide +kernel
theorem dX3_take_24 : decode cX3_take 24 = .ok (.aload_n 0, 1) := by decide +kernel
theorem dX3_take_25 : decode cX3_take 25 = .ok (.aload_n 1, 1) := by decide +kernel
theorem dX3_take_26 : decode cX3_take 26 = .ok (.getfield 50, 3) := by decide +kernel
theorem dX3_take_29 : decode cX3_take 29 = .ok (.putfield 50, 3) := by decide +kernel
theorem dX3_take_32 : decode cX3_take 32 = .ok (.aload_n 0, 1) := by decide +kernel
theorem dX3_take_33 : decode cX3_take 33 = .ok (.getfield 14, 3) := by decide +kernel
theorem dX3_take_36 : decode cX3_take 36 = .ok (.aload_n 1, 1) := by decide +kernel
theorem dX3_take_37 : decode cX3_take 37 = .ok (.getfield 14, 3) := by decide +kernel
theorem dX3_take_40 : decode cX3_take 40 = .ok (.invokevirtual 53, 3) := by decide +kernel
theorem dX3_take_43 : decode cX3_take 43 = .ok (.aload_n 0, 1) := by decide +kernel
theorem dX3_take_44 : decode cX3_take 44 = .ok (.getfield 20, 3) := by decide +kernel
theorem dX3_take_47 : decode cX3_take 47 = .ok (.aload_n 1, 1) := by decide +kernel
theorem dX3_take_48 : decode cX3_take 48 = .ok (.getfield 20, 3) := by decide +kernel
theorem dX3_take_51 : decode cX3_take 51 = .ok (.invokevirtual 53, 3) := by decide +kernel
theorem dX3_take_54 : decode cX3_take 54 = .ok (.aload_n 0, 1) := by decide +kernel
theorem dX3_take_55 : decode cX3_take 55 = .ok (.getfield 23, 3) := by decide +kernel
theorem dX3_take_58 : decode cX3_take 58 = .ok (.aload_n 1, 1) := by decide +kernel
theorem dX3_take_59 : decode cX3_take 59 = .ok (.getfield 23, 3) := by decide +kernel
theorem dX3_take_62 : decode cX3_take 62 = .ok (.invokevirtual 53, 3) := by decide +kernel
theorem dX3_take_65 : decode cX3_take 65 = .ok (.return_, 1) := by decide +kernel
theorem dX3_has_0 : decode cX3_has 0 = .ok (.iload_n 1, 1) := by decide +kernel
theorem dX3_has_1 : decode cX3_has 1 = .ok (.iconst 0, 1) := by decide +kernel
theorem dX3_has_2 : decode cX3_has 2 = .ok (.aload_n 0, 1) := by decide +kernel
theorem dX3_has_3 : decode cX3_has 3 = .ok (.getfield 47, 3) := by decide +kernel
theorem dX3_has_6 : decode cX3_has 6 = .ok (.iconst 1, 1) := by decide +kernel
theorem dX3_has_7 : decode cX3_has 7 = .ok (.isub, 1) := by decide +kernel
theorem dX3_has_8 : decode cX3_has 8 = .ok (.invokestatic 57, 3) := by decide +kernel
theorem dX3_has_11 : decode cX3_has 11 = .ok (.ireturn, 1) := by decide +kernel
theorem dX3_hasWalked_0 : decode cX3_hasWalked 0 = .ok (.aload_n 0, 1) := by decide +kernel
theorem dX3_hasWalked_1 : decode cX3_hasWalked 1 = .ok (.getfield 50, 3) := by decide +kernel
theorem dX3_hasWalked_4 : decode cX3_hasWalked 4 = .ok (.iload_n 1, 1) := by decide +kernel
theorem dX3_hasWalked_5 : decode cX3_hasWalked 5 = .ok (.ishr, 1) := by decide +kernel
theorem dX3_hasWalked_6 : decode cX3_hasWalked 6 = .ok (.iconst 1, 1) := by decide +kernel
theorem dX3_hasWalked_7 : decode cX3_hasWalked 7 = .ok (.iand, 1) := by decide +kernel
theorem dX3_hasWalked_8 : decode cX3_hasWalked 8 = .ok (.ireturn, 1) := by decide +kernel
theorem dX3_setWalked_0 : decode cX3_setWalked 0 = .ok (.aload_n 0, 1) := by decide +kernel
theorem dX3_setWalked_1 : decode cX3_setWalked 1 = .ok (.iload_n 2, 1) := by decide +kernel
theorem dX3_setWalked_2 : decode cX3_setWalked 2 = .ok (.iconst 1, 1) := by decide +kernel
theorem dX3_setWalked_3 : decode cX3_setWalked 3 = .ok (.if_icmp .ne 14, 3) := by decide +kernel
theorem dX3_setWalked_6 : decode cX3_setWalked 6 = .ok (.aload_n 0, 1) := by decide +kernel
theorem dX3_setWalked_7 : decode cX3_setWalked 7 = .ok (.getfield 50, 3) := by decide +kernel
theorem dX3_setWalked_10 : decode cX3_setWalked 10 = .ok (.iconst 1, 1) := by decide +kernel
theorem dX3_setWalked_11 : decode cX3_setWalked 11 = .ok (.iload_n 1, 1) := by decide +kernel
theorem dX3_setWalked_12 : decode cX3_setWalked 12 = .ok (.ishl, 1) := by decide +kernel
theorem dX3_setWalked_13 : decode cX3_setWalked 13 = .ok (.ior, 1) := by decide +kernel
theorem dX3_setWalked_14 : decode cX3_setWalked 14 = .ok (.goto 13, 3) := by decide +kernel
theorem dX3_setWalked_17 : decode cX3_setWalked 17 = .ok (.aload_n 0, 1) := by decide +kernel
theorem dX3_setWalked_18 : decode cX3_setWalked 18 = .ok (.getfield 50, 3) := by decide +kernel
theorem dX3_setWalked_21 : decode cX3_setWalked 21 = .ok (.iconst 1, 1) := by decide +kernel
theorem dX3_setWalked_22 : decode cX3_setWalked 22 = .ok (.iload_n 1, 1) := by decide +kernel
theorem dX3_setWalked_23 : decode cX3_setWalked 23 = .ok (.ishl, 1) := by decide +kernel
theorem dX3_setWalked_24 : decode cX3_setWalked 24 = .ok (.iconst (-1), 1) := by decide +kernel
theorem dX3_setWalked_25 : decode cX3_setWalked 25 = .ok (.ixor, 1) := by decide +kernel
theorem dX3_setWalked_26 : decode cX3_setWalked 26 = .ok (.iand, 1) := by decide +kernel
theorem dX3_setWalked_27 : decode cX3_setWalked 27 = .ok (.putfield 50, 3) := by decide +kernel
theorem dX3_setWalked_30 : decode cX3_setWalked 30 = .ok (.return_, 1) := by decide +kernel
theorem dX3_allHard_0 : decode cX3_allHard 0 = .ok (.iconst 0, 1) := by decide +kernel
theorem dX3_allHard_1 : decode cX3_allHard 1 = .ok (.istore_n 1, 1) := by decide +kernel
theorem dX3_allHard_2 : decode cX3_allHard 2 = .ok (.iconst 1, 1) := by decide +kernel
theorem dX3_allHard_3 : decode cX3_allHard 3 = .ok (.istore_n 2, 1) := by decide +kernel
theorem dX3_allHard_4 : decode cX3_allHard 4 = .ok (.iload_n 2, 1) := by decide +kernel
theorem dX3_allHard_5 : decode cX3_allHard 5 = .ok (.aload_n 0, 1) := by decide +kernel
theorem dX3_allHard_6 : decode cX3_allHard 6 = .ok (.getfield 29, 3) := by decide +kernel
theorem dX3_allHard_9 : decode cX3_allHard 9 = .ok (.if_icmp .gt 20, 3) := by decide +kernel
theorem dX3_allHard_12 : decode cX3_allHard 12 = .ok (.iload_n 1, 1) := by decide +kernel
theorem dX3_allHard_13 : decode cX3_allHard 13 = .ok (.aload_n 0, 1) := by decide +kernel
theorem dX3_allHard_14 : decode cX3_allHard 14 = .ok (.getfield 14, 3) := by decide +kernel
theorem dX3_allHard_17 : decode cX3_allHard 17 = .ok (.iload_n 2, 1) := by decide +kernel
theorem dX3_allHard_18 : decode cX3_allHard 18 = .ok (.invokevirtual 61, 3) := by decide +kernel
theorem dX3_allHard_21 : decode cX3_allHard 21 = .ok (.iadd, 1) := by decide +kernel
theorem dX3_allHard_22 : decode cX3_allHard 22 = .ok (.istore_n 1, 1) := by decide +kernel
theorem dX3_allHard_23 : decode cX3_allHard 23 = .ok (.iinc 2 1, 3) := by decide +kernel
theorem dX3_allHard_26 : decode cX3_allHard 26 = .ok (.goto (-22), 3) := by decide +kernel
theorem dX3_allHard_29 : decode cX3_allHard 29 = .ok (.iload_n 1, 1) := by decide +kernel
theorem dX3_allHard_30 : decode cX3_allHard 30 = .ok (.ireturn, 1) := by decide +kernel
theorem dX3_felt_0 : decode cX3_felt 0 = .ok (.aload_n 0, 1) := by decide +kernel
theorem dX3_felt_1 : decode cX3_felt 1 = .ok (.getfield 14, 3) := by decide +kernel
theorem dX3_felt_4 : decode cX3_felt 4 = .ok (.iload_n 1, 1) := by decide +kernel
theorem dX3_felt_5 : decode cX3_felt 5 = .ok (.iconst 3, 1) := by decide +kernel
theorem dX3_felt_6 : decode cX3_felt 6 = .ok (.if_icmp .ne 14, 3) := by decide +kernel
theorem dX3_felt_9 : decode cX3_felt 9 = .ok (.aload_n 0, 1) := by decide +kernel
theorem dX3_felt_10 : decode cX3_felt 10 = .ok (.getfield 29, 3) := by decide +kernel
theorem dX3_felt_13 : decode cX3_felt 13 = .ok (.iconst 1, 1) := by decide +kernel
theorem dX3_felt_14 : decode cX3_felt 14 = .ok (.iadd, 1) := by decide +kernel
theorem dX3_felt_15 : decode cX3_felt 15 = .ok (.iload_n 3, 1) := by decide +kernel
theorem dX3_felt_16 : decode cX3_felt 16 = .ok (.isub, 1) := by decide +kernel
theorem dX3_felt_17 : decode cX3_felt 17 = .ok (.goto 4, 3) := by decide +kernel
theorem dX3_felt_20 : decode cX3_felt 20 = .ok (.iload_n 3, 1) := by decide +kernel
theorem dX3_felt_21 : decode cX3_felt 21 = .ok (.invokevirtual 61, 3) := by decide +kernel
theorem dX3_felt_24 : decode cX3_felt 24 = .ok (.istore 4, 2) := by decide +kernel
theorem dX3_felt_26 : decode cX3_felt 26 = .ok (.iload_n 1, 1) := by decide +kernel
theorem dX3_felt_27 : decode cX3_felt 27 = .ok (.iconst 3, 1) := by decide +kernel
theorem dX3_felt_28 : decode cX3_felt 28 = .ok (.if_icmp .ne 8, 3) := by decide +kernel
theorem dX3_felt_31 : decode cX3_felt 31 = .ok (.iload 4, 2) := by decide +kernel
theorem dX3_felt_33 : decode cX3_felt 33 = .ok (.iload_n 2, 1) := by decide +kernel
theorem dX3_felt_34 : decode cX3_felt 34 = .ok (.iadd, 1) := by decide +kernel
theorem dX3_felt_35 : decode cX3_felt 35 = .ok (.ireturn, 1) := by decide +kernel
theorem dX3_felt_36 : decode cX3_felt 36 = .ok (.iload_n 1, 1) := by decide +kernel
theorem dX3_felt_37 : decode cX3_felt 37 = .ok (.iconst 1, 1) := by decide +kernel
theorem dX3_felt_38 : decode cX3_felt 38 = .ok (.if_icmp .ne 16, 3) := by decide +kernel
theorem dX3_felt_41 : decode cX3_felt 41 = .ok (.iload_n 2, 1) := by decide +kernel
theorem dX3_felt_42 : decode cX3_felt 42 = .ok (.ifCond .le 12, 3) := by decide +kernel
theorem dX3_felt_45 : decode cX3_felt 45 = .ok (.iload 4, 2) := by decide +kernel
theorem dX3_felt_47 : decode cX3_felt 47 = .ok (.iload_n 3, 1) := by decide +kernel
theorem dX3_felt_48 : decode cX3_felt 48 = .ok (.iconst 1, 1) := by decide +kernel
theorem dX3_felt_49 : decode cX3_felt 49 = .ok (.isub, 1) := by decide +kernel
theorem dX3_felt_50 : decode cX3_felt 50 = .ok (.iload_n 2, 1) := by decide +kernel
theorem dX3_felt_51 : decode cX3_felt 51 = .ok (.idiv, 1) := by decide +kernel
theorem dX3_felt_52 : decode cX3_felt 52 = .ok (.iadd, 1) := by decide +kernel
theorem dX3_felt_53 : decode cX3_felt 53 = .ok (.ireturn, 1) := by decide +kernel
theorem dX3_felt_54 : decode cX3_felt 54 = .ok (.iload_n 1, 1) := by decide +kernel
theorem dX3_felt_55 : decode cX3_felt 55 = .ok (.iconst 2, 1) := by decide +kernel
theorem dX3_felt_56 : decode cX3_felt 56 = .ok (.if_icmp .ne 18, 3) := by decide +kernel
theorem dX3_felt_59 : decode cX3_felt 59 = .ok (.iload_n 2, 1) := by decide +kernel
theorem dX3_felt_60 : decode cX3_felt 60 = .ok (.ifCond .le 14, 3) := by decide +kernel
theorem dX3_felt_63 : decode cX3_felt 63 = .ok (.iload_n 3, 1) := by decide +kernel
theorem dX3_felt_64 : decode cX3_felt 64 = .ok (.iload_n 2, 1) := by decide +kernel
theorem dX3_felt_65 : decode cX3_felt 65 = .ok (.irem, 1) := by decide +kernel
theorem dX3_felt_66 : decode cX3_felt 66 = .ok (.ifCond .ne 8, 3) := by decide +kernel
theorem dX3_felt_69 : decode cX3_felt 69 = .ok (.iload 4, 2) := by decide +kernel
theorem dX3_felt_71 : decode cX3_felt 71 = .ok (.iconst 2, 1) := by decide +kernel
theorem dX3_felt_72 : decode cX3_felt 72 = .ok (.imul, 1) := by decide +kernel
theorem dX3_felt_73 : decode cX3_felt 73 = .ok (.ireturn, 1) := by decide +kernel
theorem dX3_felt_74 : decode cX3_felt 74 = .ok (.iload 4, 2) := by decide +kernel
theorem dX3_felt_76 : decode cX3_felt 76 = .ok (.ireturn, 1) := by decide +kernel
theorem dX3_allFeltBy_0 : decode cX3_allFeltBy 0 = .ok (.iconst 0, 1) := by decide +kernel
theorem dX3_allFeltBy_1 : decode cX3_allFeltBy 1 = .ok (.istore_n 2, 1) := by decide +kernel
theorem dX3_allFeltBy_2 : decode cX3_allFeltBy 2 = .ok (.iconst 1, 1) := by decide +kernel
theorem dX3_allFeltBy_3 : decode cX3_allFeltBy 3 = .ok (.istore_n 3, 1) := by decide +kernel
theorem dX3_allFeltBy_4 : decode cX3_allFeltBy 4 = .ok (.iload_n 3, 1) := by decide +kernel
theorem dX3_allFeltBy_5 : decode cX3_allFeltBy 5 = .ok (.aload_n 0, 1) := by decide +kernel
theorem dX3_allFeltBy_6 : decode cX3_allFeltBy 6 = .ok (.getfield 29, 3) := by decide +kernel
theorem dX3_allFeltBy_9 : decode cX3_allFeltBy 9 = .ok (.if_icmp .gt 33, 3) := by decide +kernel
theorem dX3_allFeltBy_12 : decode cX3_allFeltBy 12 = .ok (.iload_n 2, 1) := by decide +kernel
theorem dX3_allFeltBy_13 : decode cX3_allFeltBy 13 = .ok (.aload_n 0, 1) := by decide +kernel
theorem dX3_allFeltBy_14 : decode cX3_allFeltBy 14 = .ok (.aload_n 0, 1) := by decide +kernel
theorem dX3_allFeltBy_15 : decode cX3_allFeltBy 15 = .ok (.getfield 20, 3) := by decide +kernel
theorem dX3_allFeltBy_18 : decode cX3_allFeltBy 18 = .ok (.iload_n 1, 1) := by decide +kernel
theorem dX3_allFeltBy_19 : decode cX3_allFeltBy 19 = .ok (.invokevirtual 61, 3) := by decide +kernel
theorem dX3_allFeltBy_22 : decode cX3_allFeltBy 22 = .ok (.aload_n 0, 1) := by decide +kernel
theorem dX3_allFeltBy_23 : decode cX3_allFeltBy 23 = .ok (.getfield 23, 3) := by decide +kernel
theorem dX3_allFeltBy_26 : decode cX3_allFeltBy 26 = .ok (.iload_n 1, 1) := by decide +kernel
theorem dX3_allFeltBy_27 : decode cX3_allFeltBy 27 = .ok (.invokevirtual 61, 3) := by decide +kernel
theorem dX3_allFeltBy_30 : decode cX3_allFeltBy 30 = .ok (.iload_n 3, 1) := by decide +kernel
theorem dX3_allFeltBy_31 : decode cX3_allFeltBy 31 = .ok (.invokevirtual 65, 3) := by decide +kernel
theorem dX3_allFeltBy_34 : decode cX3_allFeltBy 34 = .ok (.iadd, 1) := by decide +kernel
theorem dX3_allFeltBy_35 : decode cX3_allFeltBy 35 = .ok (.istore_n 2, 1) := by decide +kernel
theorem dX3_allFeltBy_36 : decode cX3_allFeltBy 36 = .ok (.iinc 3 1, 3) := by decide +kernel
theorem dX3_allFeltBy_39 : decode cX3_allFeltBy 39 = .ok (.goto (-35), 3) := by decide +kernel
theorem dX3_allFeltBy_42 : decode cX3_allFeltBy 42 = .ok (.iload_n 2, 1) := by decide +kernel
theorem dX3_allFeltBy_43 : decode cX3_allFeltBy 43 = .ok (.ireturn, 1) := by decide +kernel
theorem dX3_placeFelt_0 : decode cX3_placeFelt 0 = .ok (.iconst 0, 1) := by decide +kernel
theorem dX3_placeFelt_1 : decode cX3_placeFelt 1 = .ok (.istore 4, 2) := by decide +kernel
theorem dX3_placeFelt_3 : decode cX3_placeFelt 3 = .ok (.iconst 1, 1) := by decide +kernel
theorem dX3_placeFelt_4 : decode cX3_placeFelt 4 = .ok (.istore 5, 2) := by decide +kernel
theorem dX3_placeFelt_6 : decode cX3_placeFelt 6 = .ok (.iload 5, 2) := by decide +kernel
theorem dX3_placeFelt_8 : decode cX3_placeFelt 8 = .ok (.aload_n 0, 1) := by decide +kernel
theorem dX3_placeFelt_9 : decode cX3_placeFelt 9 = .ok (.getfield 29, 3) := by decide +kernel
theorem dX3_placeFelt_12 : decode cX3_placeFelt 12 = .ok (.if_icmp .gt 46, 3) := by decide +kernel
theorem dX3_placeFelt_15 : decode cX3_placeFelt 15 = .ok (.iload 4, 2) := by decide +kernel
theorem dX3_placeFelt_17 : decode cX3_placeFelt 17 = .ok (.aload_n 0, 1) := by decide +kernel
theorem dX3_placeFelt_18 : decode cX3_placeFelt 18 = .ok (.iload_n 1, 1) := by decide +kernel
theorem dX3_placeFelt_19 : decode cX3_placeFelt 19 = .ok (.iload_n 2, 1) := by decide +kernel
theorem dX3_placeFelt_20 : decode cX3_placeFelt 20 = .ok (.iload 5, 2) := by decide +kernel
theorem dX3_placeFelt_22 : decode cX3_placeFelt 22 = .ok (.invokevirtual 65, 3) := by decide +kernel
theorem dX3_placeFelt_25 : decode cX3_placeFelt 25 = .ok (.iadd, 1) := by decide +kernel
theorem dX3_placeFelt_26 : decode cX3_placeFelt 26 = .ok (.istore 4, 2) := by decide +kernel
theorem dX3_placeFelt_28 : decode cX3_placeFelt 28 = .ok (.iload 4, 2) := by decide +kernel
theorem dX3_placeFelt_30 : decode cX3_placeFelt 30 = .ok (.iload_n 3, 1) := by decide +kernel
theorem dX3_placeFelt_31 : decode cX3_placeFelt 31 = .ok (.if_icmp .lt 21, 3) := by decide +kernel
theorem dX3_placeFelt_34 : decode cX3_placeFelt 34 = .ok (.iload_n 1, 1) := by decide +kernel
theorem dX3_placeFelt_35 : decode cX3_placeFelt 35 = .ok (.iconst 3, 1) := by decide +kernel
theorem dX3_placeFelt_36 : decode cX3_placeFelt 36 = .ok (.if_icmp .ne 13, 3) := by decide +kernel
theorem dX3_placeFelt_39 : decode cX3_placeFelt 39 = .ok (.aload_n 0, 1) := by decide +kernel
theorem dX3_placeFelt_40 : decode cX3_placeFelt 40 = .ok (.getfield 29, 3) := by decide +kernel
theorem dX3_placeFelt_43 : decode cX3_placeFelt 43 = .ok (.iload 5, 2) := by decide +kernel
theorem dX3_placeFelt_45 : decode cX3_placeFelt 45 = .ok (.isub, 1) := by decide +kernel
theorem dX3_placeFelt_46 : decode cX3_placeFelt 46 = .ok (.goto 5, 3) := by decide +kernel
theorem dX3_placeFelt_49 : decode cX3_placeFelt 49 = .ok (.iload 5, 2) := by decide +kernel
theorem dX3_placeFelt_51 : decode cX3_placeFelt 51 = .ok (.ireturn, 1) := by decide +kernel
theorem dX3_placeFelt_52 : decode cX3_placeFelt 52 = .ok (.iinc 5 1, 3) := by decide +kernel
theorem dX3_placeFelt_55 : decode cX3_placeFelt 55 = .ok (.goto (-49), 3) := by decide +kernel
theorem dX3_placeFelt_58 : decode cX3_placeFelt 58 = .ok (.iconst (-1), 1) := by decide +kernel
theorem dX3_placeFelt_59 : decode cX3_placeFelt 59 = .ok (.ireturn, 1) := by decide +kernel
theorem dX3_stoneOf_0 : decode cX3_stoneOf 0 = .ok (.aload_n 0, 1) := by decide +kernel
theorem dX3_stoneOf_1 : decode cX3_stoneOf 1 = .ok (.aload_n 0, 1) := by decide +kernel
theorem dX3_stoneOf_2 : decode cX3_stoneOf 2 = .ok (.getfield 20, 3) := by decide +kernel
theorem dX3_stoneOf_5 : decode cX3_stoneOf 5 = .ok (.iload_n 1, 1) := by decide +kernel
theorem dX3_stoneOf_6 : decode cX3_stoneOf 6 = .ok (.invokevirtual 61, 3) := by decide +kernel
theorem dX3_stoneOf_9 : decode cX3_stoneOf 9 = .ok (.aload_n 0, 1) := by decide +kernel
theorem dX3_stoneOf_10 : decode cX3_stoneOf 10 = .ok (.getfield 23, 3) := by decide +kernel
theorem dX3_stoneOf_13 : decode cX3_stoneOf 13 = .ok (.iload_n 1, 1) := by decide +kernel
theorem dX3_stoneOf_14 : decode cX3_stoneOf 14 = .ok (.invokevirtual 61, 3) := by decide +kernel
theorem dX3_stoneOf_17 : decode cX3_stoneOf 17 = .ok (.iload_n 2, 1) := by decide +kernel
theorem dX3_stoneOf_18 : decode cX3_stoneOf 18 = .ok (.aload_n 0, 1) := by decide +kernel
theorem dX3_stoneOf_19 : decode cX3_stoneOf 19 = .ok (.getfield 33, 3) := by decide +kernel
theorem dX3_stoneOf_22 : decode cX3_stoneOf 22 = .ok (.imul, 1) := by decide +kernel
theorem dX3_stoneOf_23 : decode cX3_stoneOf 23 = .ok (.invokevirtual 69, 3) := by decide +kernel
theorem dX3_stoneOf_26 : decode cX3_stoneOf 26 = .ok (.ireturn, 1) := by decide +kernel
theorem dX3_stonesOf_0 : decode cX3_stonesOf 0 = .ok (.aload_n 0, 1) := by decide +kernel
theorem dX3_stonesOf_1 : decode cX3_stonesOf 1 = .ok (.getfield 33, 3) := by decide +kernel
theorem dX3_stonesOf_4 : decode cX3_stonesOf 4 = .ok (.ifCond .gt 7, 3) := by decide +kernel
theorem dX3_stonesOf_7 : decode cX3_stonesOf 7 = .ok (.iconst 0, 1) := by decide +kernel
theorem dX3_stonesOf_8 : decode cX3_stonesOf 8 = .ok (.goto 18, 3) := by decide +kernel
theorem dX3_stonesOf_11 : decode cX3_stonesOf 11 = .ok (.bipush 8, 2) := by decide +kernel
theorem dX3_stonesOf_13 : decode cX3_stonesOf 13 = .ok (.aload_n 0, 1) := by decide +kernel
theorem dX3_stonesOf_14 : decode cX3_stonesOf 14 = .ok (.iload_n 1, 1) := by decide +kernel
theorem dX3_stonesOf_15 : decode cX3_stonesOf 15 = .ok (.invokevirtual 72, 3) := by decide +kernel
theorem dX3_stonesOf_18 : decode cX3_stonesOf 18 = .ok (.aload_n 0, 1) := by decide +kernel
theorem dX3_stonesOf_19 : decode cX3_stonesOf 19 = .ok (.getfield 33, 3) := by decide +kernel
theorem dX3_stonesOf_22 : decode cX3_stonesOf 22 = .ok (.idiv, 1) := by decide +kernel
theorem dX3_stonesOf_23 : decode cX3_stonesOf 23 = .ok (.invokestatic 75, 3) := by decide +kernel
theorem dX3_stonesOf_26 : decode cX3_stonesOf 26 = .ok (.ireturn, 1) := by decide +kernel
theorem dX4_init_0 : decode cX4_init 0 = .ok (.aload_n 0, 1) := by decide +kernel
theorem dX4_init_1 : decode cX4_init 1 = .ok (.invokespecial 1, 3) := by decide +kernel
theorem dX4_init_4 : decode cX4_init 4 = .ok (.aload_n 0, 1) := by decide +kernel
theorem dX4_init_5 : decode cX4_init 5 = .ok (.iconst 0, 1) := by decide +kernel
theorem dX4_init_6 : decode cX4_init 6 = .ok (.iload_n 1, 1) := by decide +kernel
theorem dX4_init_7 : decode cX4_init 7 = .ok (.invokestatic 7, 3) := by decide +kernel
theorem dX4_init_10 : decode cX4_init 10 = .ok (.newarray .int, 2) := by decide +kernel
theorem dX4_init_12 : decode cX4_init 12 = .ok (.putfield 13, 3) := by decide +kernel
theorem dX4_init_15 : decode cX4_init 15 = .ok (.return_, 1) := by decide +kernel
theorem dX4_at_0 : decode cX4_at 0 = .ok (.iload_n 1, 1) := by decide +kernel
theorem dX4_at_1 : decode cX4_at 1 = .ok (.ifCond .lt 21, 3) := by decide +kernel
theorem dX4_at_4 : decode cX4_at 4 = .ok (.iload_n 1, 1) := by decide +kernel
theorem dX4_at_5 : decode cX4_at 5 = .ok (.aload_n 0, 1) := by decide +kernel
theorem dX4_at_6 : decode cX4_at 6 = .ok (.getfield 13, 3) := by decide +kernel
theorem dX4_at_9 : decode cX4_at 9 = .ok (.arraylength, 1) := by decide +kernel
theorem dX4_at_10 : decode cX4_at 10 = .ok (.if_icmp .ge 12, 3) := by decide +kernel
theorem dX4_at_13 : decode cX4_at 13 = .ok (.aload_n 0, 1) := by decide +kernel
theorem dX4_at_14 : decode cX4_at 14 = .ok (.getfield 13, 3) := by decide +kernel
theorem dX4_at_17 : decode cX4_at 17 = .ok (.iload_n 1, 1) := by decide +kernel
theorem dX4_at_18 : decode cX4_at 18 = .ok (.iaload, 1) := by decide +kernel
theorem dX4_at_19 : decode cX4_at 19 = .ok (.goto 4, 3) := by decide +kernel
theorem dX4_at_22 : decode cX4_at 22 = .ok (.iconst 0, 1) := by decide +kernel
theorem dX4_at_23 : decode cX4_at 23 = .ok (.ireturn, 1) := by decide +kernel
theorem dX4_put_0 : decode cX4_put 0 = .ok (.iload_n 1, 1) := by decide +kernel
theorem dX4_put_1 : decode cX4_put 1 = .ok (.ifCond .lt 19, 3) := by decide +kernel
theorem dX4_put_4 : decode cX4_put 4 = .ok (.iload_n 1, 1) := by decide +kernel
theorem dX4_put_5 : decode cX4_put 5 = .ok (.aload_n 0, 1) := by decide +kernel
theorem dX4_put_6 : decode cX4_put 6 = .ok (.getfield 13, 3) := by decide +kernel
theorem dX4_put_9 : decode cX4_put 9 = .ok (.arraylength, 1) := by decide +kernel
theorem dX4_put_10 : decode cX4_put 10 = .ok (.if_icmp .ge 10, 3) := by decide +kernel
theorem dX4_put_13 : decode cX4_put 13 = .ok (.aload_n 0, 1) := by decide +kernel
theorem dX4_put_14 : decode cX4_put 14 = .ok (.getfield 13, 3) := by decide +kernel
theorem dX4_put_17 : decode cX4_put 17 = .ok (.iload_n 1, 1) := by decide +kernel
theorem dX4_put_18 : decode cX4_put 18 = .ok (.iload_n 2, 1) := by decide +kernel
theorem dX4_put_19 : decode cX4_put 19 = .ok (.iastore, 1) := by decide +kernel
theorem dX4_put_20 : decode cX4_put 20 = .ok (.return_, 1) := by decide +kernel
theorem dX4_take_0 : decode cX4_take 0 = .ok (.iconst 0, 1) := by decide +kernel
theorem dX4_take_1 : decode cX4_take 1 = .ok (.istore_n 2, 1) := by decide +kernel
theorem dX4_take_2 : decode cX4_take 2 = .ok (.iload_n 2, 1) := by decide +kernel
theorem dX4_take_3 : decode cX4_take 3 = .ok (.aload_n 0, 1) := by decide +kernel
theorem dX4_take_4 : decode cX4_take 4 = .ok (.getfield 13, 3) := by decide +kernel
theorem dX4_take_7 : decode cX4_take 7 = .ok (.arraylength, 1) := by decide +kernel
theorem dX4_take_8 : decode cX4_take 8 = .ok (.if_icmp .ge 20, 3) := by decide +kernel
theorem dX4_take_11 : decode cX4_take 11 = .ok (.aload_n 0, 1) := by decide +kernel
theorem dX4_take_12 : decode cX4_take 12 = .ok (.getfield 13, 3) := by decide +kernel
theorem dX4_take_15 : decode cX4_take 15 = .ok (.iload_n 2, 1) := by decide +kernel
theorem dX4_take_16 : decode cX4_take 16 = .ok (.aload_n 1, 1) := by decide +kernel
theorem dX4_take_17 : decode cX4_take 17 = .ok (.iload_n 2, 1) := by decide +kernel
theorem dX4_take_18 : decode cX4_take 18 = .ok (.invokevirtual 19, 3) := by decide +kernel
theorem dX4_take_21 : decode cX4_take 21 = .ok (.iastore, 1) := by decide +kernel
theorem dX4_take_22 : decode cX4_take 22 = .ok (.iinc 2 1, 3) := by decide +kernel
theorem dX4_take_25 : decode cX4_take 25 = .ok (.goto (-23), 3) := by decide +kernel
theorem dX4_take_28 : decode cX4_take 28 = .ok (.return_, 1) := by decide +kernel
theorem dX4_shift_0 : decode cX4_shift 0 = .ok (.iconst 1, 1) := by decide +kernel
theorem dX4_shift_1 : decode cX4_shift 1 = .ok (.istore_n 1, 1) := by decide +kernel
theorem dX4_shift_2 : decode cX4_shift 2 = .ok (.iload_n 1, 1) := by decide +kernel
theorem dX4_shift_3 : decode cX4_shift 3 = .ok (.aload_n 0, 1) := by decide +kernel
theorem dX4_shift_4 : decode cX4_shift 4 = .ok (.getfield 13, 3) := by decide +kernel
theorem dX4_shift_7 : decode cX4_shift 7 = .ok (.arraylength, 1) := by decide +kernel
theorem dX4_shift_8 : decode cX4_shift 8 = .ok (.if_icmp .ge 23, 3) := by decide +kernel
theorem dX4_shift_11 : decode cX4_shift 11 = .ok (.aload_n 0, 1) := by decide +kernel
theorem dX4_shift_12 : decode cX4_shift 12 = .ok (.getfield 13, 3) := by decide +kernel
theorem dX4_shift_15 : decode cX4_shift 15 = .ok (.iload_n 1, 1) := by decide +kernel
theorem dX4_shift_16 : decode cX4_shift 16 = .ok (.iconst 1, 1) := by decide +kernel
theorem dX4_shift_17 : decode cX4_shift 17 = .ok (.isub, 1) := by decide +kernel
theorem dX4_shift_18 : decode cX4_shift 18 = .ok (.aload_n 0, 1) := by decide +kernel
theorem dX4_shift_19 : decode cX4_shift 19 = .ok (.getfield 13, 3) := by decide +kernel
theorem dX4_shift_22 : decode cX4_shift 22 = .ok (.iload_n 1, 1) := by decide +kernel
theorem dX4_shift_23 : decode cX4_shift 23 = .ok (.iaload, 1) := by decide +kernel
theorem dX4_shift_24 : decode cX4_shift 24 = .ok (.iastore, 1) := by decide +kernel
theorem dX4_shift_25 : decode cX4_shift 25 = .ok (.iinc 1 1, 3) := by decide +kernel
theorem dX4_shift_28 : decode cX4_shift 28 = .ok (.goto (-26), 3) := by decide +kernel
theorem dX4_shift_31 : decode cX4_shift 31 = .ok (.return_, 1) := by decide +kernel
theorem dX5_init_0 : decode cX5_init 0 = .ok (.aload_n 0, 1) := by decide +kernel
theorem dX5_init_1 : decode cX5_init 1 = .ok (.invokespecial 3, 3) := by decide +kernel
theorem dX5_init_4 : decode cX5_init 4 = .ok (.aload_n 0, 1) := by decide +kernel
theorem dX5_init_5 : decode cX5_init 5 = .ok (.new 9, 3) := by decide +kernel
theorem dX5_init_8 : decode cX5_init 8 = .ok (.dup, 1) := by decide +kernel
theorem dX5_init_9 : decode cX5_init 9 = .ok (.bipush 6, 2) := by decide +kernel
theorem dX5_init_11 : decode cX5_init 11 = .ok (.invokespecial 11, 3) := by decide +kernel
theorem dX5_init_14 : decode cX5_init 14 = .ok (.putfield 14, 3) := by decide +kernel
theorem dX5_init_17 : decode cX5_init 17 = .ok (.aload_n 0, 1) := by decide +kernel
theorem dX5_init_18 : decode cX5_init 18 = .ok (.new 9, 3) := by decide +kernel
theorem dX5_init_21 : decode cX5_init 21 = .ok (.dup, 1) := by decide +kernel
theorem dX5_init_22 : decode cX5_init 22 = .ok (.bipush 6, 2) := by decide +kernel
theorem dX5_init_24 : decode cX5_init 24 = .ok (.invokespecial 11, 3) := by decide +kernel
theorem dX5_init_27 : decode cX5_init 27 = .ok (.putfield 20, 3) := by decide +kernel
theorem dX5_init_30 : decode cX5_init 30 = .ok (.aload_n 0, 1) := by decide +kernel
theorem dX5_init_31 : decode cX5_init 31 = .ok (.new 9, 3) := by decide +kernel
theorem dX5_init_34 : decode cX5_init 34 = .ok (.dup, 1) := by decide +kernel
theorem dX5_init_35 : decode cX5_init 35 = .ok (.bipush 6, 2) := by decide +kernel
theorem dX5_init_37 : decode cX5_init 37 = .ok (.invokespecial 11, 3) := by decide +kernel
theorem dX5_init_40 : decode cX5_init 40 = .ok (.putfield 23, 3) := by decide +kernel
theorem dX5_init_43 : decode cX5_init 43 = .ok (.return_, 1) := by decide +kernel
theorem dX5_add_0 : decode cX5_add 0 = .ok (.aload_n 0, 1) := by decide +kernel
theorem dX5_add_1 : decode cX5_add 1 = .ok (.getfield 14, 3) := by decide +kernel
theorem dX5_add_4 : decode cX5_add 4 = .ok (.aload_n 0, 1) := by decide +kernel
theorem dX5_add_5 : decode cX5_add 5 = .ok (.getfield 26, 3) := by decide +kernel
theorem dX5_add_8 : decode cX5_add 8 = .ok (.iload_n 1, 1) := by decide +kernel
theorem dX5_add_9 : decode cX5_add 9 = .ok (.invokevirtual 30, 3) := by decide +kernel
theorem dX5_add_12 : decode cX5_add 12 = .ok (.aload_n 0, 1) := by decide +kernel
theorem dX5_add_13 : decode cX5_add 13 = .ok (.getfield 20, 3) := by decide +kernel
theorem dX5_add_16 : decode cX5_add 16 = .ok (.aload_n 0, 1) := by decide +kernel
theorem dX5_add_17 : decode cX5_add 17 = .ok (.getfield 26, 3) := by decide +kernel
theorem dX5_add_20 : decode cX5_add 20 = .ok (.iload_n 2, 1) := by decide +kernel
theorem dX5_add_21 : decode cX5_add 21 = .ok (.invokevirtual 30, 3) := by decide +kernel
theorem dX5_add_24 : decode cX5_add 24 = .ok (.aload_n 0, 1) := by decide +kernel
theorem dX5_add_25 : decode cX5_add 25 = .ok (.getfield 23, 3) := by decide +kernel
theorem dX5_add_28 : decode cX5_add 28 = .ok (.aload_n 0, 1) := by decide +kernel
theorem dX5_add_29 : decode cX5_add 29 = .ok (.getfield 26, 3) := by decide +kernel
theorem dX5_add_32 : decode cX5_add 32 = .ok (.iload_n 3, 1) := by decide +kernel
theorem dX5_add_33 : decode cX5_add 33 = .ok (.invokevirtual 30, 3) := by decide +kernel
theorem dX5_add_36 : decode cX5_add 36 = .ok (.aload_n 0, 1) := by decide +kernel
theorem dX5_add_37 : decode cX5_add 37 = .ok (.dup, 1) := by decide +kernel
theorem dX5_add_38 : decode cX5_add 38 = .ok (.getfield 26, 3) := by decide +kernel
theorem dX5_add_41 : decode cX5_add 41 = .ok (.iconst 1, 1) := by decide +kernel
theorem dX5_add_42 : decode cX5_add 42 = .ok (.iadd, 1) := by decide +kernel
theorem dX5_add_43 : decode cX5_add 43 = .ok (.putfield 26, 3) := by decide +kernel
theorem dX5_add_46 : decode cX5_add 46 = .ok (.return_, 1) := by decide +kernel
theorem dX5_fitKind_0 : decode cX5_fitKind 0 = .ok (.iconst 0, 1) := by decide +kernel
theorem dX5_fitKind_1 : decode cX5_fitKind 1 = .ok (.istore 4, 2) := by decide +kernel
theorem dX5_fitKind_3 : decode cX5_fitKind 3 = .ok (.iload 4, 2) := by decide +kernel
theorem dX5_fitKind_5 : decode cX5_fitKind 5 = .ok (.aload_n 0, 1) := by decide +kernel
theorem dX5_fitKind_6 : decode cX5_fitKind 6 = .ok (.getfield 26, 3) := by decide +kernel
theorem dX5_fitKind_9 : decode cX5_fitKind 9 = .ok (.if_icmp .ge 39, 3) := by decide +kernel
theorem dX5_fitKind_12 : decode cX5_fitKind 12 = .ok (.aload_n 0, 1) := by decide +kernel
theorem dX5_fitKind_13 : decode cX5_fitKind 13 = .ok (.getfield 14, 3) := by decide +kernel
theorem dX5_fitKind_16 : decode cX5_fitKind 16 = .ok (.iload 4, 2) := by decide +kernel
theorem dX5_fitKind_18 : decode cX5_fitKind 18 = .ok (.invokevirtual 34, 3) := by decide +kernel
theorem dX5_fitKind_21 : decode cX5_fitKind 21 = .ok (.iload_n 2, 1) := by decide +kernel
theorem dX5_fitKind_22 : decode cX5_fitKind 22 = .ok (.if_icmp .ne 20, 3) := by decide +kernel
theorem dX5_fitKind_25 : decode cX5_fitKind 25 = .ok (.aload_n 0, 1) := by decide +kernel
theorem dX5_fitKind_26 : decode cX5_fitKind 26 = .ok (.iload 4, 2) := by decide +kernel
theorem dX5_fitKind_28 : decode cX5_fitKind 28 = .ok (.aload_n 1, 1) := by decide +kernel
theorem dX5_fitKind_29 : decode cX5_fitKind 29 = .ok (.iload_n 3, 1) := by decide +kernel
theorem dX5_fitKind_30 : decode cX5_fitKind 30 = .ok (.aload_n 1, 1) := by decide +kernel
theorem dX5_fitKind_31 : decode cX5_fitKind 31 = .ok (.getfield 38, 3) := by decide +kernel
theorem dX5_fitKind_34 : decode cX5_fitKind 34 = .ok (.invokevirtual 43, 3) := by decide +kernel
theorem dX5_fitKind_37 : decode cX5_fitKind 37 = .ok (.ifCond .ne 5, 3) := by decide +kernel
theorem dX5_fitKind_40 : decode cX5_fitKind 40 = .ok (.iconst 0, 1) := by decide +kernel
theorem dX5_fitKind_41 : decode cX5_fitKind 41 = .ok (.ireturn, 1) := by decide +kernel
theorem dX5_fitKind_42 : decode cX5_fitKind 42 = .ok (.iinc 4 1, 3) := by decide +kernel
theorem dX5_fitKind_45 : decode cX5_fitKind 45 = .ok (.goto (-42), 3) := by decide +kernel
theorem dX5_fitKind_48 : decode cX5_fitKind 48 = .ok (.iconst 1, 1) := by decide +kernel
theorem dX5_fitKind_49 : decode cX5_fitKind 49 = .ok (.ireturn, 1) := by decide +kernel
theorem dX5_fitMile_0 : decode cX5_fitMile 0 = .ok (.iconst 0, 1) := by decide +kernel
theorem dX5_fitMile_1 : decode cX5_fitMile 1 = .ok (.istore_n 3, 1) := by decide +kernel
theorem dX5_fitMile_2 : decode cX5_fitMile 2 = .ok (.iload_n 3, 1) := by decide +kernel
theorem dX5_fitMile_3 : decode cX5_fitMile 3 = .ok (.aload_n 0, 1) := by decide +kernel
theorem dX5_fitMile_4 : decode cX5_fitMile 4 = .ok (.getfield 26, 3) := by decide +kernel
theorem dX5_fitMile_7 : decode cX5_fitMile 7 = .ok (.if_icmp .ge 36, 3) := by decide +kernel
theorem dX5_fitMile_10 : decode cX5_fitMile 10 = .ok (.aload_n 0, 1) := by decide +kernel
theorem dX5_fitMile_11 : decode cX5_fitMile 11 = .ok (.iload_n 3, 1) := by decide +kernel
theorem dX5_fitMile_12 : decode cX5_fitMile 12 = .ok (.aload_n 1, 1) := by decide +kernel
theorem dX5_fitMile_13 : decode cX5_fitMile 13 = .ok (.aload_n 1, 1) := by decide +kernel
theorem dX5_fitMile_14 : decode cX5_fitMile 14 = .ok (.getfield 47, 3) := by decide +kernel
theorem dX5_fitMile_17 : decode cX5_fitMile 17 = .ok (.aload_n 0, 1) := by decide +kernel
theorem dX5_fitMile_18 : decode cX5_fitMile 18 = .ok (.getfield 14, 3) := by decide +kernel
theorem dX5_fitMile_21 : decode cX5_fitMile 21 = .ok (.iload_n 3, 1) := by decide +kernel
theorem dX5_fitMile_22 : decode cX5_fitMile 22 = .ok (.invokevirtual 34, 3) := by decide +kernel
theorem dX5_fitMile_25 : decode cX5_fitMile 25 = .ok (.invokevirtual 34, 3) := by decide +kernel
theorem dX5_fitMile_28 : decode cX5_fitMile 28 = .ok (.iload_n 2, 1) := by decide +kernel
theorem dX5_fitMile_29 : decode cX5_fitMile 29 = .ok (.invokevirtual 43, 3) := by decide +kernel
theorem dX5_fitMile_32 : decode cX5_fitMile 32 = .ok (.ifCond .ne 5, 3) := by decide +kernel
theorem dX5_fitMile_35 : decode cX5_fitMile 35 = .ok (.iconst 0, 1) := by decide +kernel
theorem dX5_fitMile_36 : decode cX5_fitMile 36 = .ok (.ireturn, 1) := by decide +kernel
theorem dX5_fitMile_37 : decode cX5_fitMile 37 = .ok (.iinc 3 1, 3) := by decide +kernel
theorem dX5_fitMile_40 : decode cX5_fitMile 40 = .ok (.goto (-38), 3) := by decide +kernel
theorem dX5_fitMile_43 : decode cX5_fitMile 43 = .ok (.iconst 1, 1) := by decide +kernel
theorem dX5_fitMile_44 : decode cX5_fitMile 44 = .ok (.ireturn, 1) := by decide +kernel
theorem dX5_fits_0 : decode cX5_fits 0 = .ok (.aload_n 2, 1) := by decide +kernel
theorem dX5_fits_1 : decode cX5_fits 1 = .ok (.getfield 50, 3) := by decide +kernel
theorem dX5_fits_4 : decode cX5_fits 4 = .ok (.aload_n 0, 1) := by decide +kernel
theorem dX5_fits_5 : decode cX5_fits 5 = .ok (.getfield 14, 3) := by decide +kernel
theorem dX5_fits_8 : decode cX5_fits 8 = .ok (.iload_n 1, 1) := by decide +kernel
theorem dX5_fits_9 : decode cX5_fits 9 = .ok (.invokevirtual 34, 3) := by decide +kernel
theorem dX5_fits_12 : decode cX5_fits 12 = .ok (.invokevirtual 34, 3) := by decide +kernel
theorem dX5_fits_15 : decode cX5_fits 15 = .ok (.istore 5, 2) := by decide +kernel
theorem dX5_fits_17 : decode cX5_fits 17 = .ok (.aload_n 2, 1) := by decide +kernel
theorem dX5_fits_18 : decode cX5_fits 18 = .ok (.iload_n 3, 1) := by decide +kernel
theorem dX5_fits_19 : decode cX5_fits 19 = .ok (.iload 5, 2) := by decide +kernel
theorem dX5_fits_21 : decode cX5_fits 21 = .ok (.aload_n 0, 1) := by decide +kernel
theorem dX5_fits_22 : decode cX5_fits 22 = .ok (.getfield 20, 3) := by decide +kernel
theorem dX5_fits_25 : decode cX5_fits 25 = .ok (.iload_n 1, 1) := by decide +kernel
theorem dX5_fits_26 : decode cX5_fits 26 = .ok (.invokevirtual 34, 3) := by decide +kernel
theorem dX5_fits_29 : decode cX5_fits 29 = .ok (.iload 4, 2) := by decide +kernel
theorem dX5_fits_31 : decode cX5_fits 31 = .ok (.imul, 1) := by decide +kernel
theorem dX5_fits_32 : decode cX5_fits 32 = .ok (.invokevirtual 53, 3) := by decide +kernel
theorem dX5_fits_35 : decode cX5_fits 35 = .ok (.aload_n 0, 1) := by decide +kernel
theorem dX5_fits_36 : decode cX5_fits 36 = .ok (.getfield 23, 3) := by decide +kernel
theorem dX5_fits_39 : decode cX5_fits 39 = .ok (.iload_n 1, 1) := by decide +kernel
theorem dX5_fits_40 : decode cX5_fits 40 = .ok (.invokevirtual 34, 3) := by decide +kernel
theorem dX5_fits_43 : decode cX5_fits 43 = .ok (.if_icmp .ne 7, 3) := by decide +kernel
theorem dX5_fits_46 : decode cX5_fits 46 = .ok (.iconst 1, 1) := by decide +kernel
theorem dX5_fits_47 : decode cX5_fits 47 = .ok (.goto 4, 3) := by decide +kernel
theorem dX5_fits_50 : decode cX5_fits 50 = .ok (.iconst 0, 1) := by decide +kernel
theorem dX5_fits_51 : decode cX5_fits 51 = .ok (.ireturn, 1) := by decide +kernel
theorem dX6_init_0 : decode cX6_init 0 = .ok (.aload_n 0, 1) := by decide +kernel
theorem dX6_init_1 : decode cX6_init 1 = .ok (.invokespecial 3, 3) := by decide +kernel
theorem dX6_init_4 : decode cX6_init 4 = .ok (.aload_n 0, 1) := by decide +kernel
theorem dX6_init_5 : decode cX6_init 5 = .ok (.new 9, 3) := by decide +kernel
theorem dX6_init_8 : decode cX6_init 8 = .ok (.dup, 1) := by decide +kernel
theorem dX6_init_9 : decode cX6_init 9 = .ok (.bipush 6, 2) := by decide +kernel
theorem dX6_init_11 : decode cX6_init 11 = .ok (.invokespecial 11, 3) := by decide +kernel
theorem dX6_init_14 : decode cX6_init 14 = .ok (.putfield 14, 3) := by decide +kernel
theorem dX6_init_17 : decode cX6_init 17 = .ok (.return_, 1) := by decide +kernel
theorem dX6_find_0 : decode cX6_find 0 = .ok (.aload_n 0, 1) := by decide +kernel
theorem dX6_find_1 : decode cX6_find 1 = .ok (.aload_n 1, 1) := by decide +kernel
theorem dX6_find_2 : decode cX6_find 2 = .ok (.getfield 20, 3) := by decide +kernel
theorem dX6_find_5 : decode cX6_find 5 = .ok (.putfield 26, 3) := by decide +kernel
theorem dX6_find_8 : decode cX6_find 8 = .ok (.aload_n 0, 1) := by decide +kernel
theorem dX6_find_9 : decode cX6_find 9 = .ok (.aload_n 1, 1) := by decide +kernel
theorem dX6_find_10 : decode cX6_find 10 = .ok (.getfield 27, 3) := by decide +kernel
theorem dX6_find_13 : decode cX6_find 13 = .ok (.putfield 30, 3) := by decide +kernel
theorem dX6_find_16 : decode cX6_find 16 = .ok (.iconst 0, 1) := by decide +kernel
theorem dX6_find_17 : decode cX6_find 17 = .ok (.istore_n 3, 1) := by decide +kernel
theorem dX6_find_18 : decode cX6_find 18 = .ok (.iload_n 3, 1) := by decide +kernel
theorem dX6_find_19 : decode cX6_find 19 = .ok (.aload_n 0, 1) := by decide +kernel
theorem dX6_find_20 : decode cX6_find 20 = .ok (.getfield 26, 3) := by decide +kernel
theorem dX6_find_23 : decode cX6_find 23 = .ok (.if_icmp .ge 23, 3) := by decide +kernel
theorem dX6_find_26 : decode cX6_find 26 = .ok (.aload_n 0, 1) := by decide +kernel
theorem dX6_find_27 : decode cX6_find 27 = .ok (.getfield 14, 3) := by decide +kernel
theorem dX6_find_30 : decode cX6_find 30 = .ok (.iload_n 3, 1) := by decide +kernel
theorem dX6_find_31 : decode cX6_find 31 = .ok (.aload_n 1, 1) := by decide +kernel
theorem dX6_find_32 : decode cX6_find 32 = .ok (.iload_n 3, 1) := by decide +kernel
theorem dX6_find_33 : decode cX6_find 33 = .ok (.iload_n 2, 1) := by decide +kernel
theorem dX6_find_34 : decode cX6_find 34 = .ok (.invokevirtual 31, 3) := by decide +kernel
theorem dX6_find_37 : decode cX6_find 37 = .ok (.invokevirtual 35, 3) := by decide +kernel
theorem dX6_find_40 : decode cX6_find 40 = .ok (.iinc 3 1, 3) := by decide +kernel
theorem dX6_find_43 : decode cX6_find 43 = .ok (.goto (-25), 3) := by decide +kernel
theorem dX6_find_46 : decode cX6_find 46 = .ok (.return_, 1) := by decide +kernel
theorem dX6_sumOf_0 : decode cX6_sumOf 0 = .ok (.iconst 0, 1) := by decide +kernel
theorem dX6_sumOf_1 : decode cX6_sumOf 1 = .ok (.istore_n 2, 1) := by decide +kernel
theorem dX6_sumOf_2 : decode cX6_sumOf 2 = .ok (.iconst 0, 1) := by decide +kernel
theorem dX6_sumOf_3 : decode cX6_sumOf 3 = .ok (.istore_n 3, 1) := by decide +kernel
theorem dX6_sumOf_4 : decode cX6_sumOf 4 = .ok (.iload_n 3, 1) := by decide +kernel
theorem dX6_sumOf_5 : decode cX6_sumOf 5 = .ok (.aload_n 0, 1) := by decide +kernel
theorem dX6_sumOf_6 : decode cX6_sumOf 6 = .ok (.getfield 26, 3) := by decide +kernel
theorem dX6_sumOf_9 : decode cX6_sumOf 9 = .ok (.if_icmp .ge 29, 3) := by decide +kernel
theorem dX6_sumOf_12 : decode cX6_sumOf 12 = .ok (.aload_n 0, 1) := by decide +kernel
theorem dX6_sumOf_13 : decode cX6_sumOf 13 = .ok (.iload_n 3, 1) := by decide +kernel
theorem dX6_sumOf_14 : decode cX6_sumOf 14 = .ok (.iload_n 1, 1) := by decide +kernel
theorem dX6_sumOf_15 : decode cX6_sumOf 15 = .ok (.invokevirtual 39, 3) := by decide +kernel
theorem dX6_sumOf_18 : decode cX6_sumOf 18 = .ok (.ifCond .eq 14, 3) := by decide +kernel
theorem dX6_sumOf_21 : decode cX6_sumOf 21 = .ok (.iload_n 2, 1) := by decide +kernel
theorem dX6_sumOf_22 : decode cX6_sumOf 22 = .ok (.aload_n 0, 1) := by decide +kernel
theorem dX6_sumOf_23 : decode cX6_sumOf 23 = .ok (.getfield 14, 3) := by decide +kernel
theorem dX6_sumOf_26 : decode cX6_sumOf 26 = .ok (.iload_n 3, 1) := by decide +kernel
theorem dX6_sumOf_27 : decode cX6_sumOf 27 = .ok (.invokevirtual 43, 3) := by decide +kernel
theorem dX6_sumOf_30 : decode cX6_sumOf 30 = .ok (.iadd, 1) := by decide +kernel
theorem dX6_sumOf_31 : decode cX6_sumOf 31 = .ok (.istore_n 2, 1) := by decide +kernel
theorem dX6_sumOf_32 : decode cX6_sumOf 32 = .ok (.iinc 3 1, 3) := by decide +kernel
theorem dX6_sumOf_35 : decode cX6_sumOf 35 = .ok (.goto (-31), 3) := by decide +kernel
theorem dX6_sumOf_38 : decode cX6_sumOf 38 = .ok (.iload_n 2, 1) := by decide +kernel
theorem dX6_sumOf_39 : decode cX6_sumOf 39 = .ok (.ireturn, 1) := by decide +kernel
theorem dX6_numberOf_0 : decode cX6_numberOf 0 = .ok (.iconst 0, 1) := by decide +kernel
theorem dX6_numberOf_1 : decode cX6_numberOf 1 = .ok (.istore_n 2, 1) := by decide +kernel
theorem dX6_numberOf_2 : decode cX6_numberOf 2 = .ok (.iconst 0, 1) := by decide +kernel
theorem dX6_numberOf_3 : decode cX6_numberOf 3 = .ok (.istore_n 3, 1) := by decide +kernel
theorem dX6_numberOf_4 : decode cX6_numberOf 4 = .ok (.iload_n 3, 1) := by decide +kernel
theorem dX6_numberOf_5 : decode cX6_numberOf 5 = .ok (.aload_n 0, 1) := by decide +kernel
theorem dX6_numberOf_6 : decode cX6_numberOf 6 = .ok (.getfield 26, 3) := by decide +kernel
theorem dX6_numberOf_9 : decode cX6_numberOf 9 = .ok (.if_icmp .ge 21, 3) := by decide +kernel
theorem dX6_numberOf_12 : decode cX6_numberOf 12 = .ok (.aload_n 0, 1) := by decide +kernel
theorem dX6_numberOf_13 : decode cX6_numberOf 13 = .ok (.iload_n 3, 1) := by decide +kernel
theorem dX6_numberOf_14 : decode cX6_numberOf 14 = .ok (.iload_n 1, 1) := by decide +kernel
theorem dX6_numberOf_15 : decode cX6_numberOf 15 = .ok (.invokevirtual 39, 3) := by decide +kernel
theorem dX6_numberOf_18 : decode cX6_numberOf 18 = .ok (.ifCond .eq 6, 3) := by decide +kernel
theorem dX6_numberOf_21 : decode cX6_numberOf 21 = .ok (.iinc 2 1, 3) := by decide +kernel
theorem dX6_numberOf_24 : decode cX6_numberOf 24 = .ok (.iinc 3 1, 3) := by decide +kernel
theorem dX6_numberOf_27 : decode cX6_numberOf 27 = .ok (.goto (-23), 3) := by decide +kernel
theorem dX6_numberOf_30 : decode cX6_numberOf 30 = .ok (.iload_n 2, 1) := by decide +kernel
theorem dX6_numberOf_31 : decode cX6_numberOf 31 = .ok (.ireturn, 1) := by decide +kernel
theorem dX6_counts_0 : decode cX6_counts 0 = .ok (.iload_n 2, 1) := by decide +kernel
theorem dX6_counts_1 : decode cX6_counts 1 = .ok (.iload_n 1, 1) := by decide +kernel
theorem dX6_counts_2 : decode cX6_counts 2 = .ok (.ishr, 1) := by decide +kernel
theorem dX6_counts_3 : decode cX6_counts 3 = .ok (.iconst 1, 1) := by decide +kernel
theorem dX6_counts_4 : decode cX6_counts 4 = .ok (.iand, 1) := by decide +kernel
theorem dX6_counts_5 : decode cX6_counts 5 = .ok (.iconst 1, 1) := by decide +kernel
theorem dX6_counts_6 : decode cX6_counts 6 = .ok (.if_icmp .ne 19, 3) := by decide +kernel
theorem dX6_counts_9 : decode cX6_counts 9 = .ok (.aload_n 0, 1) := by decide +kernel
theorem dX6_counts_10 : decode cX6_counts 10 = .ok (.getfield 14, 3) := by decide +kernel
theorem dX6_counts_13 : decode cX6_counts 13 = .ok (.iload_n 1, 1) := by decide +kernel
theorem dX6_counts_14 : decode cX6_counts 14 = .ok (.invokevirtual 43, 3) := by decide +kernel
theorem dX6_counts_17 : decode cX6_counts 17 = .ok (.iconst (-1), 1) := by decide +kernel
theorem dX6_counts_18 : decode cX6_counts 18 = .ok (.if_icmp .eq 7, 3) := by decide +kernel
theorem dX6_counts_21 : decode cX6_counts 21 = .ok (.iconst 1, 1) := by decide +kernel
theorem dX6_counts_22 : decode cX6_counts 22 = .ok (.goto 4, 3) := by decide +kernel
theorem dX6_counts_25 : decode cX6_counts 25 = .ok (.iconst 0, 1) := by decide +kernel
theorem dX6_counts_26 : decode cX6_counts 26 = .ok (.ireturn, 1) := by decide +kernel
theorem dX7_init_0 : decode cX7_init 0 = .ok (.aload_n 0, 1) := by decide +kernel
theorem dX7_init_1 : decode cX7_init 1 = .ok (.invokespecial 3, 3) := by decide +kernel
theorem dX7_init_4 : decode cX7_init 4 = .ok (.aload_n 0, 1) := by decide +kernel
theorem dX7_init_5 : decode cX7_init 5 = .ok (.new 9, 3) := by decide +kernel
theorem dX7_init_8 : decode cX7_init 8 = .ok (.dup, 1) := by decide +kernel
theorem dX7_init_9 : decode cX7_init 9 = .ok (.sipush 160, 3) := by decide +kernel
theorem dX7_init_12 : decode cX7_init 12 = .ok (.invokespecial 11, 3) := by decide +kernel
theorem dX7_init_15 : decode cX7_init 15 = .ok (.putfield 14, 3) := by decide +kernel
theorem dX7_init_18 : decode cX7_init 18 = .ok (.return_, 1) := by decide +kernel
theorem dX7_add_0 : decode cX7_add 0 = .ok (.aload_n 0, 1) := by decide +kernel
theorem dX7_add_1 : decode cX7_add 1 = .ok (.getfield 14, 3) := by decide +kernel
theorem dX7_add_4 : decode cX7_add 4 = .ok (.aload_n 0, 1) := by decide +kernel
theorem dX7_add_5 : decode cX7_add 5 = .ok (.getfield 20, 3) := by decide +kernel
theorem dX7_add_8 : decode cX7_add 8 = .ok (.iload_n 1, 1) := by decide +kernel
theorem dX7_add_9 : decode cX7_add 9 = .ok (.invokevirtual 24, 3) := by decide +kernel
theorem dX7_add_12 : decode cX7_add 12 = .ok (.aload_n 0, 1) := by decide +kernel
theorem dX7_add_13 : decode cX7_add 13 = .ok (.dup, 1) := by decide +kernel
theorem dX7_add_14 : decode cX7_add 14 = .ok (.getfield 20, 3) := by decide +kernel
theorem dX7_add_17 : decode cX7_add 17 = .ok (.iconst 1, 1) := by decide +kernel
theorem dX7_add_18 : decode cX7_add 18 = .ok (.iadd, 1) := by decide +kernel
theorem dX7_add_19 : decode cX7_add 19 = .ok (.putfield 20, 3) := by decide +kernel
theorem dX7_add_22 : decode cX7_add 22 = .ok (.return_, 1) := by decide +kernel
theorem dX7_clear_0 : decode cX7_clear 0 = .ok (.aload_n 0, 1) := by decide +kernel
theorem dX7_clear_1 : decode cX7_clear 1 = .ok (.iconst 0, 1) := by decide +kernel
theorem dX7_clear_2 : decode cX7_clear 2 = .ok (.putfield 20, 3) := by decide +kernel
theorem dX7_clear_5 : decode cX7_clear 5 = .ok (.return_, 1) := by decide +kernel
theorem dX7_readFirst_0 : decode cX7_readFirst 0 = .ok (.aload_n 0, 1) := by decide +kernel
theorem dX7_readFirst_1 : decode cX7_readFirst 1 = .ok (.iconst 0, 1) := by decide +kernel
theorem dX7_readFirst_2 : decode cX7_readFirst 2 = .ok (.putfield 28, 3) := by decide +kernel
theorem dX7_readFirst_5 : decode cX7_readFirst 5 = .ok (.aload_n 0, 1) := by decide +kernel
theorem dX7_readFirst_6 : decode cX7_readFirst 6 = .ok (.invokevirtual 31, 3) := by decide +kernel
theorem dX7_readFirst_9 : decode cX7_readFirst 9 = .ok (.return_, 1) := by decide +kernel
theorem dX7_readNext_0 : decode cX7_readNext 0 = .ok (.aload_n 0, 1) := by decide +kernel
theorem dX7_readNext_1 : decode cX7_readNext 1 = .ok (.aload_n 0, 1) := by decide +kernel
theorem dX7_readNext_2 : decode cX7_readNext 2 = .ok (.getfield 28, 3) := by decide +kernel
theorem dX7_readNext_5 : decode cX7_readNext 5 = .ok (.putfield 34, 3) := by decide +kernel
theorem dX7_readNext_8 : decode cX7_readNext 8 = .ok (.aload_n 0, 1) := by decide +kernel
theorem dX7_readNext_9 : decode cX7_readNext 9 = .ok (.getfield 34, 3) := by decide +kernel
theorem dX7_readNext_12 : decode cX7_readNext 12 = .ok (.aload_n 0, 1) := by decide +kernel
theorem dX7_readNext_13 : decode cX7_readNext 13 = .ok (.getfield 20, 3) := by decide +kernel
theorem dX7_readNext_16 : decode cX7_readNext 16 = .ok (.if_icmp .ge 32, 3) := by decide +kernel
theorem dX7_readNext_19 : decode cX7_readNext 19 = .ok (.aload_n 0, 1) := by decide +kernel
theorem dX7_readNext_20 : decode cX7_readNext 20 = .ok (.getfield 14, 3) := by decide +kernel
theorem dX7_readNext_23 : decode cX7_readNext 23 = .ok (.aload_n 0, 1) := by decide +kernel
theorem dX7_readNext_24 : decode cX7_readNext 24 = .ok (.getfield 34, 3) := by decide +kernel
theorem dX7_readNext_27 : decode cX7_readNext 27 = .ok (.invokevirtual 37, 3) := by decide +kernel
theorem dX7_readNext_30 : decode cX7_readNext 30 = .ok (.bipush 32, 2) := by decide +kernel
theorem dX7_readNext_32 : decode cX7_readNext 32 = .ok (.if_icmp .ne 16, 3) := by decide +kernel
theorem dX7_readNext_35 : decode cX7_readNext 35 = .ok (.aload_n 0, 1) := by decide +kernel
theorem dX7_readNext_36 : decode cX7_readNext 36 = .ok (.dup, 1) := by decide +kernel
theorem dX7_readNext_37 : decode cX7_readNext 37 = .ok (.getfield 34, 3) := by decide +kernel
theorem dX7_readNext_40 : decode cX7_readNext 40 = .ok (.iconst 1, 1) := by decide +kernel
theorem dX7_readNext_41 : decode cX7_readNext 41 = .ok (.iadd, 1) := by decide +kernel
theorem dX7_readNext_42 : decode cX7_readNext 42 = .ok (.putfield 34, 3) := by decide +kernel
theorem dX7_readNext_45 : decode cX7_readNext 45 = .ok (.goto (-37), 3) := by decide +kernel
theorem dX7_readNext_48 : decode cX7_readNext 48 = .ok (.aload_n 0, 1) := by decide +kernel
theorem dX7_readNext_49 : decode cX7_readNext 49 = .ok (.getfield 14, 3) := by decide +kernel
theorem dX7_readNext_52 : decode cX7_readNext 52 = .ok (.aload_n 0, 1) := by decide +kernel
theorem dX7_readNext_53 : decode cX7_readNext 53 = .ok (.getfield 34, 3) := by decide +kernel
theorem dX7_readNext_56 : decode cX7_readNext 56 = .ok (.invokevirtual 37, 3) := by decide +kernel
theorem dX7_readNext_59 : decode cX7_readNext 59 = .ok (.invokestatic 41, 3) := by decide +kernel
theorem dX7_readNext_62 : decode cX7_readNext 62 = .ok (.istore_n 1, 1) := by decide +kernel
theorem dX7_readNext_63 : decode cX7_readNext 63 = .ok (.aload_n 0, 1) := by decide +kernel
theorem dX7_readNext_64 : decode cX7_readNext 64 = .ok (.aload_n 0, 1) := by decide +kernel
theorem dX7_readNext_65 : decode cX7_readNext 65 = .ok (.getfield 34, 3) := by decide +kernel
theorem dX7_readNext_68 : decode cX7_readNext 68 = .ok (.iconst 1, 1) := by decide +kernel
theorem dX7_readNext_69 : decode cX7_readNext 69 = .ok (.iadd, 1) := by decide +kernel
theorem dX7_readNext_70 : decode cX7_readNext 70 = .ok (.aload_n 0, 1) := by decide +kernel
theorem dX7_readNext_71 : decode cX7_readNext 71 = .ok (.getfield 20, 3) := by decide +kernel
theorem dX7_readNext_74 : decode cX7_readNext 74 = .ok (.invokestatic 44, 3) := by decide +kernel
theorem dX7_readNext_77 : decode cX7_readNext 77 = .ok (.putfield 28, 3) := by decide +kernel
theorem dX7_readNext_80 : decode cX7_readNext 80 = .ok (.iload_n 1, 1) := by decide +kernel
theorem dX7_readNext_81 : decode cX7_readNext 81 = .ok (.ifCond .eq 45, 3) := by decide +kernel
theorem dX7_readNext_84 : decode cX7_readNext 84 = .ok (.aload_n 0, 1) := by decide +kernel
theorem dX7_readNext_85 : decode cX7_readNext 85 = .ok (.getfield 28, 3) := by decide +kernel
theorem dX7_readNext_88 : decode cX7_readNext 88 = .ok (.aload_n 0, 1) := by decide +kernel
theorem dX7_readNext_89 : decode cX7_readNext 89 = .ok (.getfield 20, 3) := by decide +kernel
theorem dX7_readNext_92 : decode cX7_readNext 92 = .ok (.if_icmp .ge 34, 3) := by decide +kernel
theorem dX7_readNext_95 : decode cX7_readNext 95 = .ok (.aload_n 0, 1) := by decide +kernel
theorem dX7_readNext_96 : decode cX7_readNext 96 = .ok (.getfield 14, 3) := by decide +kernel
theorem dX7_readNext_99 : decode cX7_readNext 99 = .ok (.aload_n 0, 1) := by decide +kernel
theorem dX7_readNext_100 : decode cX7_readNext 100 = .ok (.getfield 28, 3) := by decide +kernel
theorem dX7_readNext_103 : decode cX7_readNext 103 = .ok (.invokevirtual 37, 3) := by decide +kernel
theorem dX7_readNext_106 : decode cX7_readNext 106 = .ok (.invokestatic 41, 3) := by decide +kernel
theorem dX7_readNext_109 : decode cX7_readNext 109 = .ok (.iload_n 1, 1) := by decide +kernel
theorem dX7_readNext_110 : decode cX7_readNext 110 = .ok (.if_icmp .ne 16, 3) := by decide +kernel
theorem dX7_readNext_113 : decode cX7_readNext 113 = .ok (.aload_n 0, 1) := by decide +kernel
theorem dX7_readNext_114 : decode cX7_readNext 114 = .ok (.dup, 1) := by decide +kernel
theorem dX7_readNext_115 : decode cX7_readNext 115 = .ok (.getfield 28, 3) := by decide +kernel
theorem dX7_readNext_118 : decode cX7_readNext 118 = .ok (.iconst 1, 1) := by decide +kernel
theorem dX7_readNext_119 : decode cX7_readNext 119 = .ok (.iadd, 1) := by decide +kernel
theorem dX7_readNext_120 : decode cX7_readNext 120 = .ok (.putfield 28, 3) := by decide +kernel
theorem dX7_readNext_123 : decode cX7_readNext 123 = .ok (.goto (-43), 3) := by decide +kernel
theorem dX7_readNext_126 : decode cX7_readNext 126 = .ok (.return_, 1) := by decide +kernel
theorem dX7_isAtEnd_0 : decode cX7_isAtEnd 0 = .ok (.aload_n 0, 1) := by decide +kernel
theorem dX7_isAtEnd_1 : decode cX7_isAtEnd 1 = .ok (.getfield 34, 3) := by decide +kernel
theorem dX7_isAtEnd_4 : decode cX7_isAtEnd 4 = .ok (.aload_n 0, 1) := by decide +kernel
theorem dX7_isAtEnd_5 : decode cX7_isAtEnd 5 = .ok (.getfield 20, 3) := by decide +kernel
theorem dX7_isAtEnd_8 : decode cX7_isAtEnd 8 = .ok (.if_icmp .lt 7, 3) := by decide +kernel
theorem dX7_isAtEnd_11 : decode cX7_isAtEnd 11 = .ok (.iconst 1, 1) := by decide +kernel
theorem dX7_isAtEnd_12 : decode cX7_isAtEnd 12 = .ok (.goto 4, 3) := by decide +kernel
theorem dX7_isAtEnd_15 : decode cX7_isAtEnd 15 = .ok (.iconst 0, 1) := by decide +kernel
theorem dX7_isAtEnd_16 : decode cX7_isAtEnd 16 = .ok (.ireturn, 1) := by decide +kernel
theorem dX7_isAt_0 : decode cX7_isAt 0 = .ok (.aload_n 0, 1) := by decide +kernel
theorem dX7_isAt_1 : decode cX7_isAt 1 = .ok (.getfield 28, 3) := by decide +kernel
theorem dX7_isAt_4 : decode cX7_isAt 4 = .ok (.aload_n 0, 1) := by decide +kernel
theorem dX7_isAt_5 : decode cX7_isAt 5 = .ok (.getfield 34, 3) := by decide +kernel
theorem dX7_isAt_8 : decode cX7_isAt 8 = .ok (.isub, 1) := by decide +kernel
theorem dX7_isAt_9 : decode cX7_isAt 9 = .ok (.aload_n 1, 1) := by decide +kernel
theorem dX7_isAt_10 : decode cX7_isAt 10 = .ok (.invokevirtual 50, 3) := by decide +kernel
theorem dX7_isAt_13 : decode cX7_isAt 13 = .ok (.if_icmp .eq 5, 3) := by decide +kernel
theorem dX7_isAt_16 : decode cX7_isAt 16 = .ok (.iconst 0, 1) := by decide +kernel
theorem dX7_isAt_17 : decode cX7_isAt 17 = .ok (.ireturn, 1) := by decide +kernel
theorem dX7_isAt_18 : decode cX7_isAt 18 = .ok (.iconst 0, 1) := by decide +kernel
theorem dX7_isAt_19 : decode cX7_isAt 19 = .ok (.istore_n 2, 1) := by decide +kernel
theorem dX7_isAt_20 : decode cX7_isAt 20 = .ok (.iload_n 2, 1) := by decide +kernel
theorem dX7_isAt_21 : decode cX7_isAt 21 = .ok (.aload_n 1, 1) := by decide +kernel
theorem dX7_isAt_22 : decode cX7_isAt 22 = .ok (.invokevirtual 50, 3) := by decide +kernel
theorem dX7_isAt_25 : decode cX7_isAt 25 = .ok (.if_icmp .ge 32, 3) := by decide +kernel
theorem dX7_isAt_28 : decode cX7_isAt 28 = .ok (.aload_n 0, 1) := by decide +kernel
theorem dX7_isAt_29 : decode cX7_isAt 29 = .ok (.getfield 14, 3) := by decide +kernel
theorem dX7_isAt_32 : decode cX7_isAt 32 = .ok (.aload_n 0, 1) := by decide +kernel
theorem dX7_isAt_33 : decode cX7_isAt 33 = .ok (.getfield 34, 3) := by decide +kernel
theorem dX7_isAt_36 : decode cX7_isAt 36 = .ok (.iload_n 2, 1) := by decide +kernel
theorem dX7_isAt_37 : decode cX7_isAt 37 = .ok (.iadd, 1) := by decide +kernel
theorem dX7_isAt_38 : decode cX7_isAt 38 = .ok (.invokevirtual 37, 3) := by decide +kernel
theorem dX7_isAt_41 : decode cX7_isAt 41 = .ok (.aload_n 1, 1) := by decide +kernel
theorem dX7_isAt_42 : decode cX7_isAt 42 = .ok (.iload_n 2, 1) := by decide +kernel
theorem dX7_isAt_43 : decode cX7_isAt 43 = .ok (.invokevirtual 55, 3) := by decide +kernel
theorem dX7_isAt_46 : decode cX7_isAt 46 = .ok (.if_icmp .eq 5, 3) := by decide +kernel
theorem dX7_isAt_49 : decode cX7_isAt 49 = .ok (.iconst 0, 1) := by decide +kernel
theorem dX7_isAt_50 : decode cX7_isAt 50 = .ok (.ireturn, 1) := by decide +kernel
theorem dX7_isAt_51 : decode cX7_isAt 51 = .ok (.iinc 2 1, 3) := by decide +kernel
theorem dX7_isAt_54 : decode cX7_isAt 54 = .ok (.goto (-34), 3) := by decide +kernel
theorem dX7_isAt_57 : decode cX7_isAt 57 = .ok (.iconst 1, 1) := by decide +kernel
theorem dX7_isAt_58 : decode cX7_isAt 58 = .ok (.ireturn, 1) := by decide +kernel
theorem dX7_number_0 : decode cX7_number 0 = .ok (.aload_n 0, 1) := by decide +kernel
theorem dX7_number_1 : decode cX7_number 1 = .ok (.invokevirtual 59, 3) := by decide +kernel
theorem dX7_number_4 : decode cX7_number 4 = .ok (.ifCond .ne 34, 3) := by decide +kernel
theorem dX7_number_7 : decode cX7_number 7 = .ok (.aload_n 0, 1) := by decide +kernel
theorem dX7_number_8 : decode cX7_number 8 = .ok (.getfield 14, 3) := by decide +kernel
theorem dX7_number_11 : decode cX7_number 11 = .ok (.aload_n 0, 1) := by decide +kernel
theorem dX7_number_12 : decode cX7_number 12 = .ok (.getfield 34, 3) := by decide +kernel
theorem dX7_number_15 : decode cX7_number 15 = .ok (.invokevirtual 37, 3) := by decide +kernel
theorem dX7_number_18 : decode cX7_number 18 = .ok (.invokestatic 41, 3) := by decide +kernel
theorem dX7_number_21 : decode cX7_number 21 = .ok (.iconst 2, 1) := by decide +kernel
theorem dX7_number_22 : decode cX7_number 22 = .ok (.if_icmp .ne 16, 3) := by decide +kernel
theorem dX7_number_25 : decode cX7_number 25 = .ok (.aload_n 0, 1) := by decide +kernel
theorem dX7_number_26 : decode cX7_number 26 = .ok (.getfield 28, 3) := by decide +kernel
theorem dX7_number_29 : decode cX7_number 29 = .ok (.aload_n 0, 1) := by decide +kernel
theorem dX7_number_30 : decode cX7_number 30 = .ok (.getfield 34, 3) := by decide +kernel
theorem dX7_number_33 : decode cX7_number 33 = .ok (.isub, 1) := by decide +kernel
theorem dX7_number_34 : decode cX7_number 34 = .ok (.iconst 2, 1) := by decide +kernel
theorem dX7_number_35 : decode cX7_number 35 = .ok (.if_icmp .le 5, 3) := by decide +kernel
theorem dX7_number_38 : decode cX7_number 38 = .ok (.iconst (-1), 1) := by decide +kernel
theorem dX7_number_39 : decode cX7_number 39 = .ok (.ireturn, 1) := by decide +kernel
theorem dX7_number_40 : decode cX7_number 40 = .ok (.iconst 0, 1) := by decide +kernel
theorem dX7_number_41 : decode cX7_number 41 = .ok (.istore_n 1, 1) := by decide +kernel
theorem dX7_number_42 : decode cX7_number 42 = .ok (.aload_n 0, 1) := by decide +kernel
theorem dX7_number_43 : decode cX7_number 43 = .ok (.getfield 34, 3) := by decide +kernel
theorem dX7_number_46 : decode cX7_number 46 = .ok (.istore_n 2, 1) := by decide +kernel
theorem dX7_number_47 : decode cX7_number 47 = .ok (.iload_n 2, 1) := by decide +kernel
theorem dX7_number_48 : decode cX7_number 48 = .ok (.aload_n 0, 1) := by decide +kernel
theorem dX7_number_49 : decode cX7_number 49 = .ok (.getfield 28, 3) := by decide +kernel
theorem dX7_number_52 : decode cX7_number 52 = .ok (.if_icmp .ge 26, 3) := by decide +kernel
theorem dX7_number_55 : decode cX7_number 55 = .ok (.iload_n 1, 1) := by decide +kernel
theorem dX7_number_56 : decode cX7_number 56 = .ok (.bipush 10, 2) := by decide +kernel
theorem dX7_number_58 : decode cX7_number 58 = .ok (.imul, 1) := by decide +kernel
theorem dX7_number_59 : decode cX7_number 59 = .ok (.aload_n 0, 1) := by decide +kernel
theorem dX7_number_60 : decode cX7_number 60 = .ok (.getfield 14, 3) := by decide +kernel
theorem dX7_number_63 : decode cX7_number 63 = .ok (.iload_n 2, 1) := by decide +kernel
theorem dX7_number_64 : decode cX7_number 64 = .ok (.invokevirtual 37, 3) := by decide +kernel
theorem dX7_number_67 : decode cX7_number 67 = .ok (.iadd, 1) := by decide +kernel
theorem dX7_number_68 : decode cX7_number 68 = .ok (.bipush 48, 2) := by decide +kernel
theorem dX7_number_70 : decode cX7_number 70 = .ok (.isub, 1) := by decide +kernel
theorem dX7_number_71 : decode cX7_number 71 = .ok (.istore_n 1, 1) := by decide +kernel
theorem dX7_number_72 : decode cX7_number 72 = .ok (.iinc 2 1, 3) := by decide +kernel
theorem dX7_number_75 : decode cX7_number 75 = .ok (.goto (-28), 3) := by decide +kernel
theorem dX7_number_78 : decode cX7_number 78 = .ok (.iload_n 1, 1) := by decide +kernel
theorem dX7_number_79 : decode cX7_number 79 = .ok (.ireturn, 1) := by decide +kernel
theorem dX7_sortOf_0 : decode cX7_sortOf 0 = .ok (.iload_n 0, 1) := by decide +kernel
theorem dX7_sortOf_1 : decode cX7_sortOf 1 = .ok (.bipush 97, 2) := by decide +kernel
theorem dX7_sortOf_3 : decode cX7_sortOf 3 = .ok (.if_icmp .lt 11, 3) := by decide +kernel
theorem dX7_sortOf_6 : decode cX7_sortOf 6 = .ok (.iload_n 0, 1) := by decide +kernel
theorem dX7_sortOf_7 : decode cX7_sortOf 7 = .ok (.bipush 122, 2) := by decide +kernel
theorem dX7_sortOf_9 : decode cX7_sortOf 9 = .ok (.if_icmp .gt 5, 3) := by decide +kernel
theorem dX7_sortOf_12 : decode cX7_sortOf 12 = .ok (.iconst 1, 1) := by decide +kernel
theorem dX7_sortOf_13 : decode cX7_sortOf 13 = .ok (.ireturn, 1) := by decide +kernel
theorem dX7_sortOf_14 : decode cX7_sortOf 14 = .ok (.iload_n 0, 1) := by decide +kernel
theorem dX7_sortOf_15 : decode cX7_sortOf 15 = .ok (.bipush 48, 2) := by decide +kernel
theorem dX7_sortOf_17 : decode cX7_sortOf 17 = .ok (.if_icmp .lt 13, 3) := by decide +kernel
theorem dX7_sortOf_20 : decode cX7_sortOf 20 = .ok (.iload_n 0, 1) := by decide +kernel
theorem dX7_sortOf_21 : decode cX7_sortOf 21 = .ok (.bipush 57, 2) := by decide +kernel
theorem dX7_sortOf_23 : decode cX7_sortOf 23 = .ok (.if_icmp .gt 7, 3) := by decide +kernel
theorem dX7_sortOf_26 : decode cX7_sortOf 26 = .ok (.iconst 2, 1) := by decide +kernel
theorem dX7_sortOf_27 : decode cX7_sortOf 27 = .ok (.goto 4, 3) := by decide +kernel
theorem dX7_sortOf_30 : decode cX7_sortOf 30 = .ok (.iconst 0, 1) := by decide +kernel
theorem dX7_sortOf_31 : decode cX7_sortOf 31 = .ok (.ireturn, 1) := by decide +kernel
theorem dX8_init_0 : decode cX8_init 0 = .ok (.aload_n 0, 1) := by decide +kernel
theorem dX8_init_1 : decode cX8_init 1 = .ok (.invokespecial 1, 3) := by decide +kernel
theorem dX8_init_4 : decode cX8_init 4 = .ok (.aload_n 0, 1) := by decide +kernel
theorem dX8_init_5 : decode cX8_init 5 = .ok (.new 7, 3) := by decide +kernel
theorem dX8_init_8 : decode cX8_init 8 = .ok (.dup, 1) := by decide +kernel
theorem dX8_init_9 : decode cX8_init 9 = .ok (.invokespecial 9, 3) := by decide +kernel
theorem dX8_init_12 : decode cX8_init 12 = .ok (.putfield 10, 3) := by decide +kernel
theorem dX8_init_15 : decode cX8_init 15 = .ok (.aload_n 0, 1) := by decide +kernel
theorem dX8_init_16 : decode cX8_init 16 = .ok (.new 16, 3) := by decide +kernel
theorem dX8_init_19 : decode cX8_init 19 = .ok (.dup, 1) := by decide +kernel
theorem dX8_init_20 : decode cX8_init 20 = .ok (.aload_n 0, 1) := by decide +kernel
theorem dX8_init_21 : decode cX8_init 21 = .ok (.getfield 10, 3) := by decide +kernel
theorem dX8_init_24 : decode cX8_init 24 = .ok (.invokespecial 18, 3) := by decide +kernel
theorem dX8_init_27 : decode cX8_init 27 = .ok (.putfield 21, 3) := by decide +kernel
theorem dX8_init_30 : decode cX8_init 30 = .ok (.aload_n 0, 1) := by decide +kernel
theorem dX8_init_31 : decode cX8_init 31 = .ok (.new 25, 3) := by decide +kernel
theorem dX8_init_34 : decode cX8_init 34 = .ok (.dup, 1) := by decide +kernel
theorem dX8_init_35 : decode cX8_init 35 = .ok (.invokespecial 27, 3) := by decide +kernel
theorem dX8_init_38 : decode cX8_init 38 = .ok (.putfield 28, 3) := by decide +kernel
theorem dX8_init_41 : decode cX8_init 41 = .ok (.aload_n 0, 1) := by decide +kernel
theorem dX8_init_42 : decode cX8_init 42 = .ok (.new 25, 3) := by decide +kernel
theorem dX8_init_45 : decode cX8_init 45 = .ok (.dup, 1) := by decide +kernel
theorem dX8_init_46 : decode cX8_init 46 = .ok (.invokespecial 27, 3) := by decide +kernel
theorem dX8_init_49 : decode cX8_init 49 = .ok (.putfield 32, 3) := by decide +kernel
theorem dX8_init_52 : decode cX8_init 52 = .ok (.aload_n 0, 1) := by decide +kernel
theorem dX8_init_53 : decode cX8_init 53 = .ok (.new 25, 3) := by decide +kernel
theorem dX8_init_56 : decode cX8_init 56 = .ok (.dup, 1) := by decide +kernel
theorem dX8_init_57 : decode cX8_init 57 = .ok (.invokespecial 27, 3) := by decide +kernel
theorem dX8_init_60 : decode cX8_init 60 = .ok (.putfield 35, 3) := by decide +kernel
theorem dX8_init_63 : decode cX8_init 63 = .ok (.aload_n 0, 1) := by decide +kernel
theorem dX8_init_64 : decode cX8_init 64 = .ok (.new 25, 3) := by decide +kernel
theorem dX8_init_67 : decode cX8_init 67 = .ok (.dup, 1) := by decide +kernel
theorem dX8_init_68 : decode cX8_init 68 = .ok (.invokespecial 27, 3) := by decide +kernel
theorem dX8_init_71 : decode cX8_init 71 = .ok (.putfield 38, 3) := by decide +kernel
theorem dX8_init_74 : decode cX8_init 74 = .ok (.aload_n 0, 1) := by decide +kernel
theorem dX8_init_75 : decode cX8_init 75 = .ok (.new 41, 3) := by decide +kernel
theorem dX8_init_78 : decode cX8_init 78 = .ok (.dup, 1) := by decide +kernel
theorem dX8_init_79 : decode cX8_init 79 = .ok (.invokespecial 43, 3) := by decide +kernel
theorem dX8_init_82 : decode cX8_init 82 = .ok (.putfield 44, 3) := by decide +kernel
theorem dX8_init_85 : decode cX8_init 85 = .ok (.aload_n 0, 1) := by decide +kernel
theorem dX8_init_86 : decode cX8_init 86 = .ok (.new 48, 3) := by decide +kernel
theorem dX8_init_89 : decode cX8_init 89 = .ok (.dup, 1) := by decide +kernel
theorem dX8_init_90 : decode cX8_init 90 = .ok (.invokespecial 50, 3) := by decide +kernel
theorem dX8_init_93 : decode cX8_init 93 = .ok (.putfield 51, 3) := by decide +kernel
theorem dX8_init_96 : decode cX8_init 96 = .ok (.aload_n 0, 1) := by decide +kernel
theorem dX8_init_97 : decode cX8_init 97 = .ok (.new 55, 3) := by decide +kernel
theorem dX8_init_100 : decode cX8_init 100 = .ok (.dup, 1) := by decide +kernel
theorem dX8_init_101 : decode cX8_init 101 = .ok (.invokespecial 57, 3) := by decide +kernel
theorem dX8_init_104 : decode cX8_init 104 = .ok (.putfield 58, 3) := by decide +kernel
theorem dX8_init_107 : decode cX8_init 107 = .ok (.aload_n 0, 1) := by decide +kernel
theorem dX8_init_108 : decode cX8_init 108 = .ok (.new 62, 3) := by decide +kernel
theorem dX8_init_111 : decode cX8_init 111 = .ok (.dup, 1) := by decide +kernel
theorem dX8_init_112 : decode cX8_init 112 = .ok (.invokespecial 64, 3) := by decide +kernel
theorem dX8_init_115 : decode cX8_init 115 = .ok (.putfield 65, 3) := by decide +kernel
theorem dX8_init_118 : decode cX8_init 118 = .ok (.return_, 1) := by decide +kernel
theorem dX8_write_0 : decode cX8_write 0 = .ok (.iload_n 1, 1) := by decide +kernel
theorem dX8_write_1 : decode cX8_write 1 = .ok (.iconst 0, 1) := by decide +kernel
theorem dX8_write_2 : decode cX8_write 2 = .ok (.sipush 255, 3) := by decide +kernel
theorem dX8_write_5 : decode cX8_write 5 = .ok (.invokestatic 69, 3) := by decide +kernel
theorem dX8_write_8 : decode cX8_write 8 = .ok (.ifCond .ne 6, 3) := by decide +kernel
theorem dX8_write_11 : decode cX8_write 11 = .ok (.bipush (-3), 2) := by decide +kernel
theorem dX8_write_13 : decode cX8_write 13 = .ok (.ireturn, 1) := by decide +kernel
theorem dX8_write_14 : decode cX8_write 14 = .ok (.aload_n 0, 1) := by decide +kernel
theorem dX8_write_15 : decode cX8_write 15 = .ok (.getfield 10, 3) := by decide +kernel
theorem dX8_write_18 : decode cX8_write 18 = .ok (.getfield 73, 3) := by decide +kernel
theorem dX8_write_21 : decode cX8_write 21 = .ok (.sipush 160, 3) := by decide +kernel
theorem dX8_write_24 : decode cX8_write 24 = .ok (.if_icmp .lt 6, 3) := by decide +kernel
theorem dX8_write_27 : decode cX8_write 27 = .ok (.bipush (-5), 2) := by decide +kernel
theorem dX8_write_29 : decode cX8_write 29 = .ok (.ireturn, 1) := by decide +kernel
theorem dX8_write_30 : decode cX8_write 30 = .ok (.aload_n 0, 1) := by decide +kernel
theorem dX8_write_31 : decode cX8_write 31 = .ok (.getfield 10, 3) := by decide +kernel
theorem dX8_write_34 : decode cX8_write 34 = .ok (.iload_n 1, 1) := by decide +kernel
theorem dX8_write_35 : decode cX8_write 35 = .ok (.invokevirtual 77, 3) := by decide +kernel
theorem dX8_write_38 : decode cX8_write 38 = .ok (.aload_n 0, 1) := by decide +kernel
theorem dX8_write_39 : decode cX8_write 39 = .ok (.getfield 10, 3) := by decide +kernel
theorem dX8_write_42 : decode cX8_write 42 = .ok (.getfield 73, 3) := by decide +kernel
theorem dX8_write_45 : decode cX8_write 45 = .ok (.ireturn, 1) := by decide +kernel
theorem dX8_erase_0 : decode cX8_erase 0 = .ok (.aload_n 0, 1) := by decide +kernel
theorem dX8_erase_1 : decode cX8_erase 1 = .ok (.getfield 10, 3) := by decide +kernel
theorem dX8_erase_4 : decode cX8_erase 4 = .ok (.getfield 73, 3) := by decide +kernel
theorem dX8_erase_7 : decode cX8_erase 7 = .ok (.istore_n 1, 1) := by decide +kernel
theorem dX8_erase_8 : decode cX8_erase 8 = .ok (.aload_n 0, 1) := by decide +kernel
theorem dX8_erase_9 : decode cX8_erase 9 = .ok (.getfield 10, 3) := by decide +kernel
theorem dX8_erase_12 : decode cX8_erase 12 = .ok (.invokevirtual 81, 3) := by decide +kernel
theorem dX8_erase_15 : decode cX8_erase 15 = .ok (.iload_n 1, 1) := by decide +kernel
theorem dX8_erase_16 : decode cX8_erase 16 = .ok (.ireturn, 1) := by decide +kernel
theorem dX8_fault_0 : decode cX8_fault 0 = .ok (.aload_n 0, 1) := by decide +kernel
theorem dX8_fault_1 : decode cX8_fault 1 = .ok (.getfield 21, 3) := by decide +kernel
theorem dX8_fault_4 : decode cX8_fault 4 = .ok (.aload_n 0, 1) := by decide +kernel
theorem dX8_fault_5 : decode cX8_fault 5 = .ok (.getfield 28, 3) := by decide +kernel
theorem dX8_fault_8 : decode cX8_fault 8 = .ok (.invokevirtual 84, 3) := by decide +kernel
theorem dX8_fault_11 : decode cX8_fault 11 = .ok (.aload_n 0, 1) := by decide +kernel
theorem dX8_fault_12 : decode cX8_fault 12 = .ok (.getfield 21, 3) := by decide +kernel
theorem dX8_fault_15 : decode cX8_fault 15 = .ok (.getfield 88, 3) := by decide +kernel
theorem dX8_fault_18 : decode cX8_fault 18 = .ok (.ireturn, 1) := by decide +kernel
theorem dX8_road_0 : decode cX8_road 0 = .ok (.aload_n 0, 1) := by decide +kernel
theorem dX8_road_1 : decode cX8_road 1 = .ok (.getfield 21, 3) := by decide +kernel
theorem dX8_road_4 : decode cX8_road 4 = .ok (.aload_n 0, 1) := by decide +kernel
theorem dX8_road_5 : decode cX8_road 5 = .ok (.getfield 28, 3) := by decide +kernel
theorem dX8_road_8 : decode cX8_road 8 = .ok (.invokevirtual 84, 3) := by decide +kernel
theorem dX8_road_11 : decode cX8_road 11 = .ok (.aload_n 0, 1) := by decide +kernel
theorem dX8_road_12 : decode cX8_road 12 = .ok (.getfield 21, 3) := by decide +kernel
theorem dX8_road_15 : decode cX8_road 15 = .ok (.getfield 88, 3) := by decide +kernel
theorem dX8_road_18 : decode cX8_road 18 = .ok (.iconst (-1), 1) := by decide +kernel
theorem dX8_road_19 : decode cX8_road 19 = .ok (.if_icmp .eq 6, 3) := by decide +kernel
theorem dX8_road_22 : decode cX8_road 22 = .ok (.bipush (-4), 2) := by decide +kernel
theorem dX8_road_24 : decode cX8_road 24 = .ok (.ireturn, 1) := by decide +kernel
theorem dX8_road_25 : decode cX8_road 25 = .ok (.aload_n 0, 1) := by decide +kernel
theorem dX8_road_26 : decode cX8_road 26 = .ok (.getfield 28, 3) := by decide +kernel
theorem dX8_road_29 : decode cX8_road 29 = .ok (.aload_n 0, 1) := by decide +kernel
theorem dX8_road_30 : decode cX8_road 30 = .ok (.getfield 21, 3) := by decide +kernel
theorem dX8_road_33 : decode cX8_road 33 = .ok (.getfield 91, 3) := by decide +kernel
theorem dX8_road_36 : decode cX8_road 36 = .ok (.invokevirtual 94, 3) := by decide +kernel
theorem dX8_road_39 : decode cX8_road 39 = .ok (.aload_n 0, 1) := by decide +kernel
theorem dX8_road_40 : decode cX8_road 40 = .ok (.getfield 32, 3) := by decide +kernel
theorem dX8_road_43 : decode cX8_road 43 = .ok (.aload_n 0, 1) := by decide +kernel
theorem dX8_road_44 : decode cX8_road 44 = .ok (.getfield 28, 3) := by decide +kernel
theorem dX8_road_47 : decode cX8_road 47 = .ok (.invokevirtual 94, 3) := by decide +kernel
theorem dX8_road_50 : decode cX8_road 50 = .ok (.aload_n 0, 1) := by decide +kernel
theorem dX8_road_51 : decode cX8_road 51 = .ok (.getfield 10, 3) := by decide +kernel
theorem dX8_road_54 : decode cX8_road 54 = .ok (.invokevirtual 81, 3) := by decide +kernel
theorem dX8_road_57 : decode cX8_road 57 = .ok (.aload_n 0, 1) := by decide +kernel
theorem dX8_road_58 : decode cX8_road 58 = .ok (.getfield 51, 3) := by decide +kernel
theorem dX8_road_61 : decode cX8_road 61 = .ok (.iconst 0, 1) := by decide +kernel
theorem dX8_road_62 : decode cX8_road 62 = .ok (.putfield 97, 3) := by decide +kernel
theorem dX8_road_65 : decode cX8_road 65 = .ok (.aload_n 0, 1) := by decide +kernel
theorem dX8_road_66 : decode cX8_road 66 = .ok (.getfield 44, 3) := by decide +kernel
theorem dX8_road_69 : decode cX8_road 69 = .ok (.iconst 0, 1) := by decide +kernel
theorem dX8_road_70 : decode cX8_road 70 = .ok (.putfield 100, 3) := by decide +kernel
theorem dX8_road_73 : decode cX8_road 73 = .ok (.aload_n 0, 1) := by decide +kernel
theorem dX8_road_74 : decode cX8_road 74 = .ok (.iconst 0, 1) := by decide +kernel
theorem dX8_road_75 : decode cX8_road 75 = .ok (.putfield 101, 3) := by decide +kernel
theorem dX8_road_78 : decode cX8_road 78 = .ok (.aload_n 0, 1) := by decide +kernel
theorem dX8_road_79 : decode cX8_road 79 = .ok (.getfield 21, 3) := by decide +kernel
theorem dX8_road_82 : decode cX8_road 82 = .ok (.getfield 104, 3) := by decide +kernel
theorem dX8_road_85 : decode cX8_road 85 = .ok (.ireturn, 1) := by decide +kernel
theorem dX8_walker_0 : decode cX8_walker 0 = .ok (.aload_n 0, 1) := by decide +kernel
theorem dX8_walker_1 : decode cX8_walker 1 = .ok (.getfield 32, 3) := by decide +kernel
theorem dX8_walker_4 : decode cX8_walker 4 = .ok (.iload_n 1, 1) := by decide +kernel
theorem dX8_walker_5 : decode cX8_walker 5 = .ok (.invokevirtual 107, 3) := by decide +kernel
theorem dX8_walker_8 : decode cX8_walker 8 = .ok (.ifCond .ne 6, 3) := by decide +kernel
theorem dX8_walker_11 : decode cX8_walker 11 = .ok (.bipush (-2), 2) := by decide +kernel
theorem dX8_walker_13 : decode cX8_walker 13 = .ok (.ireturn, 1) := by decide +kernel
theorem dX8_walker_14 : decode cX8_walker 14 = .ok (.iload_n 2, 1) := by decide +kernel
theorem dX8_walker_15 : decode cX8_walker 15 = .ok (.tableswitch 84 0 4 #[33, 45, 57, 66, 75], 33) := by decide +kernel
theorem dX8_walker_48 : decode cX8_walker 48 = .ok (.aload_n 0, 1) := by decide +kernel
theorem dX8_walker_49 : decode cX8_walker 49 = .ok (.getfield 32, 3) := by decide +kernel
theorem dX8_walker_52 : decode cX8_walker 52 = .ok (.getfield 111, 3) := by decide +kernel
theorem dX8_walker_55 : decode cX8_walker 55 = .ok (.iload_n 1, 1) := by decide +kernel
theorem dX8_walker_56 : decode cX8_walker 56 = .ok (.invokevirtual 115, 3) := by decide +kernel
theorem dX8_walker_59 : decode cX8_walker 59 = .ok (.ireturn, 1) := by decide +kernel
theorem dX8_walker_60 : decode cX8_walker 60 = .ok (.aload_n 0, 1) := by decide +kernel
theorem dX8_walker_61 : decode cX8_walker 61 = .ok (.getfield 32, 3) := by decide +kernel
theorem dX8_walker_64 : decode cX8_walker 64 = .ok (.getfield 121, 3) := by decide +kernel
theorem dX8_walker_67 : decode cX8_walker 67 = .ok (.iload_n 1, 1) := by decide +kernel
theorem dX8_walker_68 : decode cX8_walker 68 = .ok (.invokevirtual 115, 3) := by decide +kernel
theorem dX8_walker_71 : decode cX8_walker 71 = .ok (.ireturn, 1) := by decide +kernel
theorem dX8_walker_72 : decode cX8_walker 72 = .ok (.aload_n 0, 1) := by decide +kernel
theorem dX8_walker_73 : decode cX8_walker 73 = .ok (.getfield 32, 3) := by decide +kernel
theorem dX8_walker_76 : decode cX8_walker 76 = .ok (.iload_n 1, 1) := by decide +kernel
theorem dX8_walker_77 : decode cX8_walker 77 = .ok (.invokevirtual 124, 3) := by decide +kernel
theorem dX8_walker_80 : decode cX8_walker 80 = .ok (.ireturn, 1) := by decide +kernel
theorem dX8_walker_81 : decode cX8_walker 81 = .ok (.aload_n 0, 1) := by decide +kernel
theorem dX8_walker_82 : decode cX8_walker 82 = .ok (.getfield 32, 3) := by decide +kernel
theorem dX8_walker_85 : decode cX8_walker 85 = .ok (.iload_n 1, 1) := by decide +kernel
theorem dX8_walker_86 : decode cX8_walker 86 = .ok (.invokevirtual 127, 3) := by decide +kernel
theorem dX8_walker_89 : decode cX8_walker 89 = .ok (.ireturn, 1) := by decide +kernel
theorem dX8_walker_90 : decode cX8_walker 90 = .ok (.aload_n 0, 1) := by decide +kernel
theorem dX8_walker_91 : decode cX8_walker 91 = .ok (.getfield 32, 3) := by decide +kernel
theorem dX8_walker_94 : decode cX8_walker 94 = .ok (.iload_n 1, 1) := by decide +kernel
theorem dX8_walker_95 : decode cX8_walker 95 = .ok (.invokevirtual 130, 3) := by decide +kernel
theorem dX8_walker_98 : decode cX8_walker 98 = .ok (.ireturn, 1) := by decide +kernel
theorem dX8_walker_99 : decode cX8_walker 99 = .ok (.bipush (-3), 2) := by decide +kernel
theorem dX8_walker_101 : decode cX8_walker 101 = .ok (.ireturn, 1) := by decide +kernel
theorem dX8_as_0 : decode cX8_as 0 = .ok (.aload_n 0, 1) := by decide +kernel
theorem dX8_as_1 : decode cX8_as 1 = .ok (.getfield 32, 3) := by decide +kernel
theorem dX8_as_4 : decode cX8_as 4 = .ok (.iload_n 1, 1) := by decide +kernel
theorem dX8_as_5 : decode cX8_as 5 = .ok (.invokevirtual 107, 3) := by decide +kernel
theorem dX8_as_8 : decode cX8_as 8 = .ok (.ifCond .ne 6, 3) := by decide +kernel
theorem dX8_as_11 : decode cX8_as 11 = .ok (.bipush (-2), 2) := by decide +kernel
theorem dX8_as_13 : decode cX8_as 13 = .ok (.ireturn, 1) := by decide +kernel
theorem dX8_as_14 : decode cX8_as 14 = .ok (.iload_n 2, 1) := by decide +kernel
theorem dX8_as_15 : decode cX8_as 15 = .ok (.iconst 0, 1) := by decide +kernel
theorem dX8_as_16 : decode cX8_as 16 = .ok (.iconst 4, 1) := by decide +kernel
theorem dX8_as_17 : decode cX8_as 17 = .ok (.invokestatic 69, 3) := by decide +kernel
theorem dX8_as_20 : decode cX8_as 20 = .ok (.ifCond .ne 6, 3) := by decide +kernel
theorem dX8_as_23 : decode cX8_as 23 = .ok (.bipush (-3), 2) := by decide +kernel
theorem dX8_as_25 : decode cX8_as 25 = .ok (.ireturn, 1) := by decide +kernel
theorem dX8_as_26 : decode cX8_as 26 = .ok (.aload_n 0, 1) := by decide +kernel
theorem dX8_as_27 : decode cX8_as 27 = .ok (.getfield 32, 3) := by decide +kernel
theorem dX8_as_30 : decode cX8_as 30 = .ok (.getfield 111, 3) := by decide +kernel
theorem dX8_as_33 : decode cX8_as 33 = .ok (.iload_n 1, 1) := by decide +kernel
theorem dX8_as_34 : decode cX8_as 34 = .ok (.invokevirtual 115, 3) := by decide +kernel
theorem dX8_as_37 : decode cX8_as 37 = .ok (.istore_n 3, 1) := by decide +kernel
theorem dX8_as_38 : decode cX8_as 38 = .ok (.iload_n 3, 1) := by decide +kernel
theorem dX8_as_39 : decode cX8_as 39 = .ok (.iload_n 2, 1) := by decide +kernel
theorem dX8_as_40 : decode cX8_as 40 = .ok (.invokestatic 133, 3) := by decide +kernel
theorem dX8_as_43 : decode cX8_as 43 = .ok (.ifCond .ne 6, 3) := by decide +kernel
theorem dX8_as_46 : decode cX8_as 46 = .ok (.bipush (-4), 2) := by decide +kernel
theorem dX8_as_48 : decode cX8_as 48 = .ok (.ireturn, 1) := by decide +kernel
theorem dX8_as_49 : decode cX8_as 49 = .ok (.aload_n 0, 1) := by decide +kernel
theorem dX8_as_50 : decode cX8_as 50 = .ok (.getfield 32, 3) := by decide +kernel
theorem dX8_as_53 : decode cX8_as 53 = .ok (.iload_n 3, 1) := by decide +kernel
theorem dX8_as_54 : decode cX8_as 54 = .ok (.aload_n 0, 1) := by decide +kernel
theorem dX8_as_55 : decode cX8_as 55 = .ok (.getfield 32, 3) := by decide +kernel
theorem dX8_as_58 : decode cX8_as 58 = .ok (.getfield 121, 3) := by decide +kernel
theorem dX8_as_61 : decode cX8_as 61 = .ok (.iload_n 1, 1) := by decide +kernel
theorem dX8_as_62 : decode cX8_as 62 = .ok (.invokevirtual 115, 3) := by decide +kernel
theorem dX8_as_65 : decode cX8_as 65 = .ok (.aload_n 0, 1) := by decide +kernel
theorem dX8_as_66 : decode cX8_as 66 = .ok (.getfield 32, 3) := by decide +kernel
theorem dX8_as_69 : decode cX8_as 69 = .ok (.getfield 137, 3) := by decide +kernel
theorem dX8_as_72 : decode cX8_as 72 = .ok (.invokevirtual 140, 3) := by decide +kernel
theorem dX8_as_75 : decode cX8_as 75 = .ok (.ireturn, 1) := by decide +kernel
theorem dX8_step_0 : decode cX8_step 0 = .ok (.iload_n 1, 1) := by decide +kernel
theorem dX8_step_1 : decode cX8_step 1 = .ok (.iconst 1, 1) := by decide +kernel
theorem dX8_step_2 : decode cX8_step 2 = .ok (.aload_n 0, 1) := by decide +kernel
theorem dX8_step_3 : decode cX8_step 3 = .ok (.getfield 32, 3) := by decide +kernel
theorem dX8_step_6 : decode cX8_step 6 = .ok (.getfield 137, 3) := by decide +kernel
theorem dX8_step_9 : decode cX8_step 9 = .ok (.invokestatic 69, 3) := by decide +kernel
theorem dX8_step_12 : decode cX8_step 12 = .ok (.ifCond .ne 6, 3) := by decide +kernel
theorem dX8_step_15 : decode cX8_step 15 = .ok (.bipush (-3), 2) := by decide +kernel
theorem dX8_step_17 : decode cX8_step 17 = .ok (.ireturn, 1) := by decide +kernel
theorem dX8_step_18 : decode cX8_step 18 = .ok (.aload_n 0, 1) := by decide +kernel
theorem dX8_step_19 : decode cX8_step 19 = .ok (.getfield 32, 3) := by decide +kernel
theorem dX8_step_22 : decode cX8_step 22 = .ok (.getfield 144, 3) := by decide +kernel
theorem dX8_step_25 : decode cX8_step 25 = .ok (.iload_n 1, 1) := by decide +kernel
theorem dX8_step_26 : decode cX8_step 26 = .ok (.invokevirtual 115, 3) := by decide +kernel
theorem dX8_step_29 : decode cX8_step 29 = .ok (.ireturn, 1) := by decide +kernel
theorem dX8_walks_0 : decode cX8_walks 0 = .ok (.aload_n 0, 1) := by decide +kernel
theorem dX8_walks_1 : decode cX8_walks 1 = .ok (.getfield 32, 3) := by decide +kernel
theorem dX8_walks_4 : decode cX8_walks 4 = .ok (.iload_n 1, 1) := by decide +kernel
theorem dX8_walks_5 : decode cX8_walks 5 = .ok (.invokevirtual 107, 3) := by decide +kernel
theorem dX8_walks_8 : decode cX8_walks 8 = .ok (.ifCond .ne 6, 3) := by decide +kernel
theorem dX8_walks_11 : decode cX8_walks 11 = .ok (.bipush (-2), 2) := by decide +kernel
theorem dX8_walks_13 : decode cX8_walks 13 = .ok (.ireturn, 1) := by decide +kernel
theorem dX8_walks_14 : decode cX8_walks 14 = .ok (.iload_n 2, 1) := by decide +kernel
theorem dX8_walks_15 : decode cX8_walks 15 = .ok (.iconst 0, 1) := by decide +kernel
theorem dX8_walks_16 : decode cX8_walks 16 = .ok (.iconst 1, 1) := by decide +kernel
theorem dX8_walks_17 : decode cX8_walks 17 = .ok (.invokestatic 69, 3) := by decide +kernel
theorem dX8_walks_20 : decode cX8_walks 20 = .ok (.ifCond .ne 6, 3) := by decide +kernel
theorem dX8_walks_23 : decode cX8_walks 23 = .ok (.bipush (-3), 2) := by decide +kernel
theorem dX8_walks_25 : decode cX8_walks 25 = .ok (.ireturn, 1) := by decide +kernel
theorem dX8_walks_26 : decode cX8_walks 26 = .ok (.aload_n 0, 1) := by decide +kernel
theorem dX8_walks_27 : decode cX8_walks 27 = .ok (.getfield 32, 3) := by decide +kernel
theorem dX8_walks_30 : decode cX8_walks 30 = .ok (.iload_n 1, 1) := by decide +kernel
theorem dX8_walks_31 : decode cX8_walks 31 = .ok (.invokevirtual 124, 3) := by decide +kernel
theorem dX8_walks_34 : decode cX8_walks 34 = .ok (.istore_n 3, 1) := by decide +kernel
theorem dX8_walks_35 : decode cX8_walks 35 = .ok (.aload_n 0, 1) := by decide +kernel
theorem dX8_walks_36 : decode cX8_walks 36 = .ok (.getfield 44, 3) := by decide +kernel
theorem dX8_walks_39 : decode cX8_walks 39 = .ok (.iconst 0, 1) := by decide +kernel
theorem dX8_walks_40 : decode cX8_walks 40 = .ok (.iload_n 1, 1) := by decide +kernel
theorem dX8_walks_41 : decode cX8_walks 41 = .ok (.iload_n 3, 1) := by decide +kernel
theorem dX8_walks_42 : decode cX8_walks 42 = .ok (.invokevirtual 147, 3) := by decide +kernel
theorem dX8_walks_45 : decode cX8_walks 45 = .ok (.aload_n 0, 1) := by decide +kernel
theorem dX8_walks_46 : decode cX8_walks 46 = .ok (.getfield 32, 3) := by decide +kernel
theorem dX8_walks_49 : decode cX8_walks 49 = .ok (.iload_n 1, 1) := by decide +kernel
theorem dX8_walks_50 : decode cX8_walks 50 = .ok (.iload_n 2, 1) := by decide +kernel
theorem dX8_walks_51 : decode cX8_walks 51 = .ok (.invokevirtual 150, 3) := by decide +kernel
theorem dX8_walks_54 : decode cX8_walks 54 = .ok (.iload_n 3, 1) := by decide +kernel
theorem dX8_walks_55 : decode cX8_walks 55 = .ok (.ireturn, 1) := by decide +kernel
theorem dX8_flatten_0 : decode cX8_flatten 0 = .ok (.iload_n 1, 1) := by decide +kernel
theorem dX8_flatten_1 : decode cX8_flatten 1 = .ok (.iconst 1, 1) := by decide +kernel
theorem dX8_flatten_2 : decode cX8_flatten 2 = .ok (.aload_n 0, 1) := by decide +kernel
theorem dX8_flatten_3 : decode cX8_flatten 3 = .ok (.getfield 32, 3) := by decide +kernel
theorem dX8_flatten_6 : decode cX8_flatten 6 = .ok (.getfield 137, 3) := by decide +kernel
theorem dX8_flatten_9 : decode cX8_flatten 9 = .ok (.invokestatic 69, 3) := by decide +kernel
theorem dX8_flatten_12 : decode cX8_flatten 12 = .ok (.ifCond .eq 13, 3) := by decide +kernel
theorem dX8_flatten_15 : decode cX8_flatten 15 = .ok (.iload_n 2, 1) := by decide +kernel
theorem dX8_flatten_16 : decode cX8_flatten 16 = .ok (.iconst 1, 1) := by decide +kernel
theorem dX8_flatten_17 : decode cX8_flatten 17 = .ok (.bipush 9, 2) := by decide +kernel
theorem dX8_flatten_19 : decode cX8_flatten 19 = .ok (.invokestatic 69, 3) := by decide +kernel
theorem dX8_flatten_22 : decode cX8_flatten 22 = .ok (.ifCond .ne 6, 3) := by decide +kernel
theorem dX8_flatten_25 : decode cX8_flatten 25 = .ok (.bipush (-3), 2) := by decide +kernel
theorem dX8_flatten_27 : decode cX8_flatten 27 = .ok (.ireturn, 1) := by decide +kernel
theorem dX8_flatten_28 : decode cX8_flatten 28 = .ok (.aload_n 0, 1) := by decide +kernel
theorem dX8_flatten_29 : decode cX8_flatten 29 = .ok (.getfield 32, 3) := by decide +kernel
theorem dX8_flatten_32 : decode cX8_flatten 32 = .ok (.getfield 144, 3) := by decide +kernel
theorem dX8_flatten_35 : decode cX8_flatten 35 = .ok (.iload_n 1, 1) := by decide +kernel
theorem dX8_flatten_36 : decode cX8_flatten 36 = .ok (.invokevirtual 115, 3) := by decide +kernel
theorem dX8_flatten_39 : decode cX8_flatten 39 = .ok (.istore_n 3, 1) := by decide +kernel
theorem dX8_flatten_40 : decode cX8_flatten 40 = .ok (.aload_n 0, 1) := by decide +kernel
theorem dX8_flatten_41 : decode cX8_flatten 41 = .ok (.getfield 44, 3) := by decide +kernel
theorem dX8_flatten_44 : decode cX8_flatten 44 = .ok (.iconst 1, 1) := by decide +kernel
theorem dX8_flatten_45 : decode cX8_flatten 45 = .ok (.iload_n 1, 1) := by decide +kernel
theorem dX8_flatten_46 : decode cX8_flatten 46 = .ok (.iload_n 3, 1) := by decide +kernel
theorem dX8_flatten_47 : decode cX8_flatten 47 = .ok (.invokevirtual 147, 3) := by decide +kernel
theorem dX8_flatten_50 : decode cX8_flatten 50 = .ok (.aload_n 0, 1) := by decide +kernel
theorem dX8_flatten_51 : decode cX8_flatten 51 = .ok (.getfield 32, 3) := by decide +kernel
theorem dX8_flatten_54 : decode cX8_flatten 54 = .ok (.getfield 144, 3) := by decide +kernel
theorem dX8_flatten_57 : decode cX8_flatten 57 = .ok (.iload_n 1, 1) := by decide +kernel
theorem dX8_flatten_58 : decode cX8_flatten 58 = .ok (.iload_n 2, 1) := by decide +kernel
theorem dX8_flatten_59 : decode cX8_flatten 59 = .ok (.invokevirtual 154, 3) := by decide +kernel
theorem dX8_flatten_62 : decode cX8_flatten 62 = .ok (.iload_n 3, 1) := by decide +kernel
theorem dX8_flatten_63 : decode cX8_flatten 63 = .ok (.ireturn, 1) := by decide +kernel
theorem dX8_mile_0 : decode cX8_mile 0 = .ok (.iload_n 1, 1) := by decide +kernel
theorem dX8_mile_1 : decode cX8_mile 1 = .ok (.iconst 1, 1) := by decide +kernel
theorem dX8_mile_2 : decode cX8_mile 2 = .ok (.bipush 40, 2) := by decide +kernel
theorem dX8_mile_4 : decode cX8_mile 4 = .ok (.invokestatic 69, 3) := by decide +kernel
theorem dX8_mile_7 : decode cX8_mile 7 = .ok (.ifCond .ne 6, 3) := by decide +kernel
theorem dX8_mile_10 : decode cX8_mile 10 = .ok (.bipush (-3), 2) := by decide +kernel
theorem dX8_mile_12 : decode cX8_mile 12 = .ok (.ireturn, 1) := by decide +kernel
theorem dX8_mile_13 : decode cX8_mile 13 = .ok (.aload_n 0, 1) := by decide +kernel
theorem dX8_mile_14 : decode cX8_mile 14 = .ok (.getfield 32, 3) := by decide +kernel
theorem dX8_mile_17 : decode cX8_mile 17 = .ok (.getfield 157, 3) := by decide +kernel
theorem dX8_mile_20 : decode cX8_mile 20 = .ok (.istore_n 2, 1) := by decide +kernel
theorem dX8_mile_21 : decode cX8_mile 21 = .ok (.aload_n 0, 1) := by decide +kernel
theorem dX8_mile_22 : decode cX8_mile 22 = .ok (.getfield 44, 3) := by decide +kernel
theorem dX8_mile_25 : decode cX8_mile 25 = .ok (.iconst 2, 1) := by decide +kernel
theorem dX8_mile_26 : decode cX8_mile 26 = .ok (.iconst 0, 1) := by decide +kernel
theorem dX8_mile_27 : decode cX8_mile 27 = .ok (.iload_n 2, 1) := by decide +kernel
theorem dX8_mile_28 : decode cX8_mile 28 = .ok (.invokevirtual 147, 3) := by decide +kernel
theorem dX8_mile_31 : decode cX8_mile 31 = .ok (.aload_n 0, 1) := by decide +kernel
theorem dX8_mile_32 : decode cX8_mile 32 = .ok (.getfield 32, 3) := by decide +kernel
theorem dX8_mile_35 : decode cX8_mile 35 = .ok (.iload_n 1, 1) := by decide +kernel
theorem dX8_mile_36 : decode cX8_mile 36 = .ok (.putfield 157, 3) := by decide +kernel
theorem dX8_mile_39 : decode cX8_mile 39 = .ok (.iload_n 2, 1) := by decide +kernel
theorem dX8_mile_40 : decode cX8_mile 40 = .ok (.ireturn, 1) := by decide +kernel
theorem dX8_undo_0 : decode cX8_undo 0 = .ok (.aload_n 0, 1) := by decide +kernel
theorem dX8_undo_1 : decode cX8_undo 1 = .ok (.getfield 44, 3) := by decide +kernel
theorem dX8_undo_4 : decode cX8_undo 4 = .ok (.getfield 100, 3) := by decide +kernel
theorem dX8_undo_7 : decode cX8_undo 7 = .ok (.ifCond .gt 6, 3) := by decide +kernel
theorem dX8_undo_10 : decode cX8_undo 10 = .ok (.bipush (-4), 2) := by decide +kernel
theorem dX8_undo_12 : decode cX8_undo 12 = .ok (.ireturn, 1) := by decide +kernel
theorem dX8_undo_13 : decode cX8_undo 13 = .ok (.aload_n 0, 1) := by decide +kernel
theorem dX8_undo_14 : decode cX8_undo 14 = .ok (.getfield 44, 3) := by decide +kernel
theorem dX8_undo_17 : decode cX8_undo 17 = .ok (.aload_n 0, 1) := by decide +kernel
theorem dX8_undo_18 : decode cX8_undo 18 = .ok (.getfield 32, 3) := by decide +kernel
theorem dX8_undo_21 : decode cX8_undo 21 = .ok (.invokevirtual 160, 3) := by decide +kernel
theorem dX8_undo_24 : decode cX8_undo 24 = .ok (.aload_n 0, 1) := by decide +kernel
theorem dX8_undo_25 : decode cX8_undo 25 = .ok (.getfield 44, 3) := by decide +kernel
theorem dX8_undo_28 : decode cX8_undo 28 = .ok (.getfield 100, 3) := by decide +kernel
theorem dX8_undo_31 : decode cX8_undo 31 = .ok (.ireturn, 1) := by decide +kernel
theorem dX8_keep_0 : decode cX8_keep 0 = .ok (.iload_n 1, 1) := by decide +kernel
theorem dX8_keep_1 : decode cX8_keep 1 = .ok (.iconst 0, 1) := by decide +kernel
theorem dX8_keep_2 : decode cX8_keep 2 = .ok (.iconst 1, 1) := by decide +kernel
theorem dX8_keep_3 : decode cX8_keep 3 = .ok (.invokestatic 69, 3) := by decide +kernel
theorem dX8_keep_6 : decode cX8_keep 6 = .ok (.ifCond .ne 6, 3) := by decide +kernel
theorem dX8_keep_9 : decode cX8_keep 9 = .ok (.bipush (-2), 2) := by decide +kernel
theorem dX8_keep_11 : decode cX8_keep 11 = .ok (.ireturn, 1) := by decide +kernel
theorem dX8_keep_12 : decode cX8_keep 12 = .ok (.aload_n 0, 1) := by decide +kernel
theorem dX8_keep_13 : decode cX8_keep 13 = .ok (.iload_n 1, 1) := by decide +kernel
theorem dX8_keep_14 : decode cX8_keep 14 = .ok (.invokevirtual 163, 3) := by decide +kernel
theorem dX8_keep_17 : decode cX8_keep 17 = .ok (.aload_n 0, 1) := by decide +kernel
theorem dX8_keep_18 : decode cX8_keep 18 = .ok (.getfield 32, 3) := by decide +kernel
theorem dX8_keep_21 : decode cX8_keep 21 = .ok (.invokevirtual 94, 3) := by decide +kernel
theorem dX8_keep_24 : decode cX8_keep 24 = .ok (.aload_n 0, 1) := by decide +kernel
theorem dX8_keep_25 : decode cX8_keep 25 = .ok (.dup, 1) := by decide +kernel
theorem dX8_keep_26 : decode cX8_keep 26 = .ok (.getfield 101, 3) := by decide +kernel
theorem dX8_keep_29 : decode cX8_keep 29 = .ok (.iconst 1, 1) := by decide +kernel
theorem dX8_keep_30 : decode cX8_keep 30 = .ok (.iload_n 1, 1) := by decide +kernel
theorem dX8_keep_31 : decode cX8_keep 31 = .ok (.ishl, 1) := by decide +kernel
theorem dX8_keep_32 : decode cX8_keep 32 = .ok (.ior, 1) := by decide +kernel
theorem dX8_keep_33 : decode cX8_keep 33 = .ok (.putfield 101, 3) := by decide +kernel
theorem dX8_keep_36 : decode cX8_keep 36 = .ok (.aload_n 0, 1) := by decide +kernel
theorem dX8_keep_37 : decode cX8_keep 37 = .ok (.getfield 32, 3) := by decide +kernel
theorem dX8_keep_40 : decode cX8_keep 40 = .ok (.getfield 167, 3) := by decide +kernel
theorem dX8_keep_43 : decode cX8_keep 43 = .ok (.invokestatic 170, 3) := by decide +kernel
theorem dX8_keep_46 : decode cX8_keep 46 = .ok (.ireturn, 1) := by decide +kernel
theorem dX8_back_0 : decode cX8_back 0 = .ok (.iload_n 1, 1) := by decide +kernel
theorem dX8_back_1 : decode cX8_back 1 = .ok (.iconst 0, 1) := by decide +kernel
theorem dX8_back_2 : decode cX8_back 2 = .ok (.iconst 1, 1) := by decide +kernel
theorem dX8_back_3 : decode cX8_back 3 = .ok (.invokestatic 69, 3) := by decide +kernel
theorem dX8_back_6 : decode cX8_back 6 = .ok (.ifCond .ne 6, 3) := by decide +kernel
theorem dX8_back_9 : decode cX8_back 9 = .ok (.bipush (-2), 2) := by decide +kernel
theorem dX8_back_11 : decode cX8_back 11 = .ok (.ireturn, 1) := by decide +kernel
theorem dX8_back_12 : decode cX8_back 12 = .ok (.aload_n 0, 1) := by decide +kernel
theorem dX8_back_13 : decode cX8_back 13 = .ok (.getfield 101, 3) := by decide +kernel
theorem dX8_back_16 : decode cX8_back 16 = .ok (.iconst 1, 1) := by decide +kernel
theorem dX8_back_17 : decode cX8_back 17 = .ok (.iload_n 1, 1) := by decide +kernel
theorem dX8_back_18 : decode cX8_back 18 = .ok (.ishl, 1) := by decide +kernel
theorem dX8_back_19 : decode cX8_back 19 = .ok (.iand, 1) := by decide +kernel
theorem dX8_back_20 : decode cX8_back 20 = .ok (.ifCond .ne 6, 3) := by decide +kernel
theorem dX8_back_23 : decode cX8_back 23 = .ok (.bipush (-4), 2) := by decide +kernel
theorem dX8_back_25 : decode cX8_back 25 = .ok (.ireturn, 1) := by decide +kernel
theorem dX8_back_26 : decode cX8_back 26 = .ok (.aload_n 0, 1) := by decide +kernel
theorem dX8_back_27 : decode cX8_back 27 = .ok (.getfield 32, 3) := by decide +kernel
theorem dX8_back_30 : decode cX8_back 30 = .ok (.aload_n 0, 1) := by decide +kernel
theorem dX8_back_31 : decode cX8_back 31 = .ok (.iload_n 1, 1) := by decide +kernel
theorem dX8_back_32 : decode cX8_back 32 = .ok (.invokevirtual 163, 3) := by decide +kernel
theorem dX8_back_35 : decode cX8_back 35 = .ok (.invokevirtual 94, 3) := by decide +kernel
theorem dX8_back_38 : decode cX8_back 38 = .ok (.aload_n 0, 1) := by decide +kernel
theorem dX8_back_39 : decode cX8_back 39 = .ok (.getfield 44, 3) := by decide +kernel
theorem dX8_back_42 : decode cX8_back 42 = .ok (.iconst 0, 1) := by decide +kernel
theorem dX8_back_43 : decode cX8_back 43 = .ok (.putfield 100, 3) := by decide +kernel
theorem dX8_back_46 : decode cX8_back 46 = .ok (.aload_n 0, 1) := by decide +kernel
theorem dX8_back_47 : decode cX8_back 47 = .ok (.getfield 32, 3) := by decide +kernel
theorem dX8_back_50 : decode cX8_back 50 = .ok (.getfield 167, 3) := by decide +kernel
theorem dX8_back_53 : decode cX8_back 53 = .ok (.invokestatic 170, 3) := by decide +kernel
theorem dX8_back_56 : decode cX8_back 56 = .ok (.ireturn, 1) := by decide +kernel
theorem dX8_stone_0 : decode cX8_stone 0 = .ok (.aload_n 0, 1) := by decide +kernel
theorem dX8_stone_1 : decode cX8_stone 1 = .ok (.getfield 32, 3) := by decide +kernel
theorem dX8_stone_4 : decode cX8_stone 4 = .ok (.iload_n 1, 1) := by decide +kernel
theorem dX8_stone_5 : decode cX8_stone 5 = .ok (.invokevirtual 107, 3) := by decide +kernel
theorem dX8_stone_8 : decode cX8_stone 8 = .ok (.ifCond .ne 6, 3) := by decide +kernel
theorem dX8_stone_11 : decode cX8_stone 11 = .ok (.bipush (-2), 2) := by decide +kernel
theorem dX8_stone_13 : decode cX8_stone 13 = .ok (.ireturn, 1) := by decide +kernel
theorem dX8_stone_14 : decode cX8_stone 14 = .ok (.iload_n 2, 1) := by decide +kernel
theorem dX8_stone_15 : decode cX8_stone 15 = .ok (.iconst 1, 1) := by decide +kernel
theorem dX8_stone_16 : decode cX8_stone 16 = .ok (.bipush 8, 2) := by decide +kernel
theorem dX8_stone_18 : decode cX8_stone 18 = .ok (.invokestatic 69, 3) := by decide +kernel
theorem dX8_stone_21 : decode cX8_stone 21 = .ok (.ifCond .ne 6, 3) := by decide +kernel
theorem dX8_stone_24 : decode cX8_stone 24 = .ok (.bipush (-3), 2) := by decide +kernel
theorem dX8_stone_26 : decode cX8_stone 26 = .ok (.ireturn, 1) := by decide +kernel
theorem dX8_stone_27 : decode cX8_stone 27 = .ok (.aload_n 0, 1) := by decide +kernel
theorem dX8_stone_28 : decode cX8_stone 28 = .ok (.getfield 32, 3) := by decide +kernel
theorem dX8_stone_31 : decode cX8_stone 31 = .ok (.iload_n 1, 1) := by decide +kernel
theorem dX8_stone_32 : decode cX8_stone 32 = .ok (.iload_n 2, 1) := by decide +kernel
theorem dX8_stone_33 : decode cX8_stone 33 = .ok (.invokevirtual 175, 3) := by decide +kernel
theorem dX8_stone_36 : decode cX8_stone 36 = .ok (.ireturn, 1) := by decide +kernel
theorem dX8_law_0 : decode cX8_law 0 = .ok (.iload_n 1, 1) := by decide +kernel
theorem dX8_law_1 : decode cX8_law 1 = .ok (.iconst 1, 1) := by decide +kernel
theorem dX8_law_2 : decode cX8_law 2 = .ok (.bipush 8, 2) := by decide +kernel
theorem dX8_law_4 : decode cX8_law 4 = .ok (.invokestatic 69, 3) := by decide +kernel
theorem dX8_law_7 : decode cX8_law 7 = .ok (.ifCond .eq 12, 3) := by decide +kernel
theorem dX8_law_10 : decode cX8_law 10 = .ok (.iload_n 2, 1) := by decide +kernel
theorem dX8_law_11 : decode cX8_law 11 = .ok (.iconst 0, 1) := by decide +kernel
theorem dX8_law_12 : decode cX8_law 12 = .ok (.iconst 1, 1) := by decide +kernel
theorem dX8_law_13 : decode cX8_law 13 = .ok (.invokestatic 69, 3) := by decide +kernel
theorem dX8_law_16 : decode cX8_law 16 = .ok (.ifCond .ne 6, 3) := by decide +kernel
theorem dX8_law_19 : decode cX8_law 19 = .ok (.bipush (-3), 2) := by decide +kernel
theorem dX8_law_21 : decode cX8_law 21 = .ok (.ireturn, 1) := by decide +kernel
theorem dX8_law_22 : decode cX8_law 22 = .ok (.aload_n 0, 1) := by decide +kernel
theorem dX8_law_23 : decode cX8_law 23 = .ok (.getfield 58, 3) := by decide +kernel
theorem dX8_law_26 : decode cX8_law 26 = .ok (.aload_n 0, 1) := by decide +kernel
theorem dX8_law_27 : decode cX8_law 27 = .ok (.getfield 32, 3) := by decide +kernel
theorem dX8_law_30 : decode cX8_law 30 = .ok (.iload_n 1, 1) := by decide +kernel
theorem dX8_law_31 : decode cX8_law 31 = .ok (.invokevirtual 179, 3) := by decide +kernel
theorem dX8_law_34 : decode cX8_law 34 = .ok (.aload_n 0, 1) := by decide +kernel
theorem dX8_law_35 : decode cX8_law 35 = .ok (.getfield 58, 3) := by decide +kernel
theorem dX8_law_38 : decode cX8_law 38 = .ok (.aload_n 0, 1) := by decide +kernel
theorem dX8_law_39 : decode cX8_law 39 = .ok (.getfield 32, 3) := by decide +kernel
theorem dX8_law_42 : decode cX8_law 42 = .ok (.getfield 167, 3) := by decide +kernel
theorem dX8_law_45 : decode cX8_law 45 = .ok (.invokevirtual 183, 3) := by decide +kernel
theorem dX8_law_48 : decode cX8_law 48 = .ok (.istore_n 3, 1) := by decide +kernel
theorem dX8_law_49 : decode cX8_law 49 = .ok (.iload_n 3, 1) := by decide +kernel
theorem dX8_law_50 : decode cX8_law 50 = .ok (.ifCond .ne 7, 3) := by decide +kernel
theorem dX8_law_53 : decode cX8_law 53 = .ok (.iconst (-1), 1) := by decide +kernel
theorem dX8_law_54 : decode cX8_law 54 = .ok (.goto 22, 3) := by decide +kernel
theorem dX8_law_57 : decode cX8_law 57 = .ok (.aload_n 0, 1) := by decide +kernel
theorem dX8_law_58 : decode cX8_law 58 = .ok (.getfield 58, 3) := by decide +kernel
theorem dX8_law_61 : decode cX8_law 61 = .ok (.aload_n 0, 1) := by decide +kernel
theorem dX8_law_62 : decode cX8_law 62 = .ok (.getfield 32, 3) := by decide +kernel
theorem dX8_law_65 : decode cX8_law 65 = .ok (.getfield 167, 3) := by decide +kernel
theorem dX8_law_68 : decode cX8_law 68 = .ok (.invokevirtual 186, 3) := by decide +kernel
theorem dX8_law_71 : decode cX8_law 71 = .ok (.iload_n 3, 1) := by decide +kernel
theorem dX8_law_72 : decode cX8_law 72 = .ok (.iload_n 2, 1) := by decide +kernel
theorem dX8_law_73 : decode cX8_law 73 = .ok (.invokestatic 189, 3) := by decide +kernel
theorem dX8_law_76 : decode cX8_law 76 = .ok (.ireturn, 1) := by decide +kernel
theorem dX8_crossed_0 : decode cX8_crossed 0 = .ok (.iconst 1, 1) := by decide +kernel
theorem dX8_crossed_1 : decode cX8_crossed 1 = .ok (.istore_n 1, 1) := by decide +kernel
theorem dX8_crossed_2 : decode cX8_crossed 2 = .ok (.iload_n 1, 1) := by decide +kernel
theorem dX8_crossed_3 : decode cX8_crossed 3 = .ok (.bipush 8, 2) := by decide +kernel
theorem dX8_crossed_5 : decode cX8_crossed 5 = .ok (.if_icmp .ge 19, 3) := by decide +kernel
theorem dX8_crossed_8 : decode cX8_crossed 8 = .ok (.aload_n 0, 1) := by decide +kernel
theorem dX8_crossed_9 : decode cX8_crossed 9 = .ok (.iload_n 1, 1) := by decide +kernel
theorem dX8_crossed_10 : decode cX8_crossed 10 = .ok (.invokevirtual 192, 3) := by decide +kernel
theorem dX8_crossed_13 : decode cX8_crossed 13 = .ok (.ifCond .eq 5, 3) := by decide +kernel
theorem dX8_crossed_16 : decode cX8_crossed 16 = .ok (.iload_n 1, 1) := by decide +kernel
theorem dX8_crossed_17 : decode cX8_crossed 17 = .ok (.ireturn, 1) := by decide +kernel
theorem dX8_crossed_18 : decode cX8_crossed 18 = .ok (.iinc 1 1, 3) := by decide +kernel
theorem dX8_crossed_21 : decode cX8_crossed 21 = .ok (.goto (-19), 3) := by decide +kernel
theorem dX8_crossed_24 : decode cX8_crossed 24 = .ok (.iconst (-1), 1) := by decide +kernel
theorem dX8_crossed_25 : decode cX8_crossed 25 = .ok (.ireturn, 1) := by decide +kernel
theorem dX8_books_0 : decode cX8_books 0 = .ok (.iload_n 1, 1) := by decide +kernel
theorem dX8_books_1 : decode cX8_books 1 = .ok (.iconst 0, 1) := by decide +kernel
theorem dX8_books_2 : decode cX8_books 2 = .ok (.aload_n 0, 1) := by decide +kernel
theorem dX8_books_3 : decode cX8_books 3 = .ok (.getfield 32, 3) := by decide +kernel
theorem dX8_books_6 : decode cX8_books 6 = .ok (.getfield 137, 3) := by decide +kernel
theorem dX8_books_9 : decode cX8_books 9 = .ok (.invokestatic 69, 3) := by decide +kernel
theorem dX8_books_12 : decode cX8_books 12 = .ok (.ifCond .eq 18, 3) := by decide +kernel
theorem dX8_books_15 : decode cX8_books 15 = .ok (.iload_n 2, 1) := by decide +kernel
theorem dX8_books_16 : decode cX8_books 16 = .ok (.iconst 0, 1) := by decide +kernel
theorem dX8_books_17 : decode cX8_books 17 = .ok (.aload_n 0, 1) := by decide +kernel
theorem dX8_books_18 : decode cX8_books 18 = .ok (.getfield 32, 3) := by decide +kernel
theorem dX8_books_21 : decode cX8_books 21 = .ok (.getfield 137, 3) := by decide +kernel
theorem dX8_books_24 : decode cX8_books 24 = .ok (.invokestatic 69, 3) := by decide +kernel
theorem dX8_books_27 : decode cX8_books 27 = .ok (.ifCond .ne 6, 3) := by decide +kernel
theorem dX8_books_30 : decode cX8_books 30 = .ok (.bipush (-3), 2) := by decide +kernel
theorem dX8_books_32 : decode cX8_books 32 = .ok (.ireturn, 1) := by decide +kernel
theorem dX8_books_33 : decode cX8_books 33 = .ok (.aload_n 0, 1) := by decide +kernel
theorem dX8_books_34 : decode cX8_books 34 = .ok (.iload_n 1, 1) := by decide +kernel
theorem dX8_books_35 : decode cX8_books 35 = .ok (.iload_n 2, 1) := by decide +kernel
theorem dX8_books_36 : decode cX8_books 36 = .ok (.invokestatic 195, 3) := by decide +kernel
theorem dX8_books_39 : decode cX8_books 39 = .ok (.iload_n 1, 1) := by decide +kernel
theorem dX8_books_40 : decode cX8_books 40 = .ok (.iload_n 2, 1) := by decide +kernel
theorem dX8_books_41 : decode cX8_books 41 = .ok (.invokestatic 200, 3) := by decide +kernel
theorem dX8_books_44 : decode cX8_books 44 = .ok (.invokevirtual 203, 3) := by decide +kernel
theorem dX8_books_47 : decode cX8_books 47 = .ok (.ireturn, 1) := by decide +kernel
theorem dX8_send_0 : decode cX8_send 0 = .ok (.iload_n 1, 1) := by decide +kernel
theorem dX8_send_1 : decode cX8_send 1 = .ok (.iconst 1, 1) := by decide +kernel
theorem dX8_send_2 : decode cX8_send 2 = .ok (.bipush 8, 2) := by decide +kernel
theorem dX8_send_4 : decode cX8_send 4 = .ok (.invokestatic 69, 3) := by decide +kernel
theorem dX8_send_7 : decode cX8_send 7 = .ok (.ifCond .eq 27, 3) := by decide +kernel
theorem dX8_send_10 : decode cX8_send 10 = .ok (.iload_n 2, 1) := by decide +kernel
theorem dX8_send_11 : decode cX8_send 11 = .ok (.iconst 0, 1) := by decide +kernel
theorem dX8_send_12 : decode cX8_send 12 = .ok (.aload_n 0, 1) := by decide +kernel
theorem dX8_send_13 : decode cX8_send 13 = .ok (.getfield 32, 3) := by decide +kernel
theorem dX8_send_16 : decode cX8_send 16 = .ok (.getfield 137, 3) := by decide +kernel
theorem dX8_send_19 : decode cX8_send 19 = .ok (.invokestatic 69, 3) := by decide +kernel
theorem dX8_send_22 : decode cX8_send 22 = .ok (.ifCond .eq 12, 3) := by decide +kernel
theorem dX8_send_25 : decode cX8_send 25 = .ok (.iload_n 3, 1) := by decide +kernel
theorem dX8_send_26 : decode cX8_send 26 = .ok (.iconst 0, 1) := by decide +kernel
theorem dX8_send_27 : decode cX8_send 27 = .ok (.iconst 1, 1) := by decide +kernel
theorem dX8_send_28 : decode cX8_send 28 = .ok (.invokestatic 69, 3) := by decide +kernel
theorem dX8_send_31 : decode cX8_send 31 = .ok (.ifCond .ne 6, 3) := by decide +kernel
theorem dX8_send_34 : decode cX8_send 34 = .ok (.bipush (-3), 2) := by decide +kernel
theorem dX8_send_36 : decode cX8_send 36 = .ok (.ireturn, 1) := by decide +kernel
theorem dX8_send_37 : decode cX8_send 37 = .ok (.aload_n 0, 1) := by decide +kernel
theorem dX8_send_38 : decode cX8_send 38 = .ok (.getfield 58, 3) := by decide +kernel
theorem dX8_send_41 : decode cX8_send 41 = .ok (.aload_n 0, 1) := by decide +kernel
theorem dX8_send_42 : decode cX8_send 42 = .ok (.getfield 32, 3) := by decide +kernel
theorem dX8_send_45 : decode cX8_send 45 = .ok (.iload_n 1, 1) := by decide +kernel
theorem dX8_send_46 : decode cX8_send 46 = .ok (.invokevirtual 179, 3) := by decide +kernel
theorem dX8_send_49 : decode cX8_send 49 = .ok (.aload_n 0, 1) := by decide +kernel
theorem dX8_send_50 : decode cX8_send 50 = .ok (.iload_n 2, 1) := by decide +kernel
theorem dX8_send_51 : decode cX8_send 51 = .ok (.iload_n 3, 1) := by decide +kernel
theorem dX8_send_52 : decode cX8_send 52 = .ok (.iconst 1, 1) := by decide +kernel
theorem dX8_send_53 : decode cX8_send 53 = .ok (.if_icmp .ne 7, 3) := by decide +kernel
theorem dX8_send_56 : decode cX8_send 56 = .ok (.iconst 1, 1) := by decide +kernel
theorem dX8_send_57 : decode cX8_send 57 = .ok (.goto 4, 3) := by decide +kernel
theorem dX8_send_60 : decode cX8_send 60 = .ok (.iconst 0, 1) := by decide +kernel
theorem dX8_send_61 : decode cX8_send 61 = .ok (.invokevirtual 206, 3) := by decide +kernel
theorem dX8_send_64 : decode cX8_send 64 = .ok (.ireturn, 1) := by decide +kernel
theorem dX8_turns_0 : decode cX8_turns 0 = .ok (.iload_n 1, 1) := by decide +kernel
theorem dX8_turns_1 : decode cX8_turns 1 = .ok (.iconst 1, 1) := by decide +kernel
theorem dX8_turns_2 : decode cX8_turns 2 = .ok (.bipush 8, 2) := by decide +kernel
theorem dX8_turns_4 : decode cX8_turns 4 = .ok (.invokestatic 69, 3) := by decide +kernel
theorem dX8_turns_7 : decode cX8_turns 7 = .ok (.ifCond .eq 12, 3) := by decide +kernel
theorem dX8_turns_10 : decode cX8_turns 10 = .ok (.iload_n 2, 1) := by decide +kernel
theorem dX8_turns_11 : decode cX8_turns 11 = .ok (.iconst 0, 1) := by decide +kernel
theorem dX8_turns_12 : decode cX8_turns 12 = .ok (.iconst 2, 1) := by decide +kernel
theorem dX8_turns_13 : decode cX8_turns 13 = .ok (.invokestatic 69, 3) := by decide +kernel
theorem dX8_turns_16 : decode cX8_turns 16 = .ok (.ifCond .ne 6, 3) := by decide +kernel
theorem dX8_turns_19 : decode cX8_turns 19 = .ok (.bipush (-3), 2) := by decide +kernel
theorem dX8_turns_21 : decode cX8_turns 21 = .ok (.ireturn, 1) := by decide +kernel
theorem dX8_turns_22 : decode cX8_turns 22 = .ok (.aload_n 0, 1) := by decide +kernel
theorem dX8_turns_23 : decode cX8_turns 23 = .ok (.getfield 58, 3) := by decide +kernel
theorem dX8_turns_26 : decode cX8_turns 26 = .ok (.aload_n 0, 1) := by decide +kernel
theorem dX8_turns_27 : decode cX8_turns 27 = .ok (.getfield 32, 3) := by decide +kernel
theorem dX8_turns_30 : decode cX8_turns 30 = .ok (.iload_n 1, 1) := by decide +kernel
theorem dX8_turns_31 : decode cX8_turns 31 = .ok (.invokevirtual 179, 3) := by decide +kernel
theorem dX8_turns_34 : decode cX8_turns 34 = .ok (.aload_n 0, 1) := by decide +kernel
theorem dX8_turns_35 : decode cX8_turns 35 = .ok (.getfield 65, 3) := by decide +kernel
theorem dX8_turns_38 : decode cX8_turns 38 = .ok (.aload_n 0, 1) := by decide +kernel
theorem dX8_turns_39 : decode cX8_turns 39 = .ok (.getfield 58, 3) := by decide +kernel
theorem dX8_turns_42 : decode cX8_turns 42 = .ok (.aload_n 0, 1) := by decide +kernel
theorem dX8_turns_43 : decode cX8_turns 43 = .ok (.getfield 32, 3) := by decide +kernel
theorem dX8_turns_46 : decode cX8_turns 46 = .ok (.getfield 167, 3) := by decide +kernel
theorem dX8_turns_49 : decode cX8_turns 49 = .ok (.invokevirtual 210, 3) := by decide +kernel
theorem dX8_turns_52 : decode cX8_turns 52 = .ok (.iload_n 2, 1) := by decide +kernel
theorem dX8_turns_53 : decode cX8_turns 53 = .ok (.iconst 2, 1) := by decide +kernel
theorem dX8_turns_54 : decode cX8_turns 54 = .ok (.if_icmp .ne 18, 3) := by decide +kernel
theorem dX8_turns_57 : decode cX8_turns 57 = .ok (.aload_n 0, 1) := by decide +kernel
theorem dX8_turns_58 : decode cX8_turns 58 = .ok (.getfield 65, 3) := by decide +kernel
theorem dX8_turns_61 : decode cX8_turns 61 = .ok (.aload_n 0, 1) := by decide +kernel
theorem dX8_turns_62 : decode cX8_turns 62 = .ok (.getfield 32, 3) := by decide +kernel
theorem dX8_turns_65 : decode cX8_turns 65 = .ok (.getfield 167, 3) := by decide +kernel
theorem dX8_turns_68 : decode cX8_turns 68 = .ok (.invokevirtual 214, 3) := by decide +kernel
theorem dX8_turns_71 : decode cX8_turns 71 = .ok (.ireturn, 1) := by decide +kernel
theorem dX8_turns_72 : decode cX8_turns 72 = .ok (.aload_n 0, 1) := by decide +kernel
theorem dX8_turns_73 : decode cX8_turns 73 = .ok (.getfield 65, 3) := by decide +kernel
theorem dX8_turns_76 : decode cX8_turns 76 = .ok (.aload_n 0, 1) := by decide +kernel
theorem dX8_turns_77 : decode cX8_turns 77 = .ok (.getfield 32, 3) := by decide +kernel
theorem dX8_turns_80 : decode cX8_turns 80 = .ok (.getfield 167, 3) := by decide +kernel
theorem dX8_turns_83 : decode cX8_turns 83 = .ok (.invokevirtual 217, 3) := by decide +kernel
theorem dX8_turns_86 : decode cX8_turns 86 = .ok (.aload_n 0, 1) := by decide +kernel
theorem dX8_turns_87 : decode cX8_turns 87 = .ok (.getfield 65, 3) := by decide +kernel
theorem dX8_turns_90 : decode cX8_turns 90 = .ok (.aload_n 0, 1) := by decide +kernel
theorem dX8_turns_91 : decode cX8_turns 91 = .ok (.getfield 32, 3) := by decide +kernel
theorem dX8_turns_94 : decode cX8_turns 94 = .ok (.getfield 167, 3) := by decide +kernel
theorem dX8_turns_97 : decode cX8_turns 97 = .ok (.invokevirtual 220, 3) := by decide +kernel
theorem dX8_turns_100 : decode cX8_turns 100 = .ok (.iload_n 2, 1) := by decide +kernel
theorem dX8_turns_101 : decode cX8_turns 101 = .ok (.invokestatic 189, 3) := by decide +kernel
theorem dX8_turns_104 : decode cX8_turns 104 = .ok (.ireturn, 1) := by decide +kernel
theorem dX8_seen_0 : decode cX8_seen 0 = .ok (.aload_n 0, 1) := by decide +kernel
theorem dX8_seen_1 : decode cX8_seen 1 = .ok (.getfield 32, 3) := by decide +kernel
theorem dX8_seen_4 : decode cX8_seen 4 = .ok (.iload_n 1, 1) := by decide +kernel
theorem dX8_seen_5 : decode cX8_seen 5 = .ok (.invokevirtual 107, 3) := by decide +kernel
theorem dX8_seen_8 : decode cX8_seen 8 = .ok (.ifCond .ne 6, 3) := by decide +kernel
theorem dX8_seen_11 : decode cX8_seen 11 = .ok (.bipush (-2), 2) := by decide +kernel
theorem dX8_seen_13 : decode cX8_seen 13 = .ok (.ireturn, 1) := by decide +kernel
theorem dX8_seen_14 : decode cX8_seen 14 = .ok (.iload_n 2, 1) := by decide +kernel
theorem dX8_seen_15 : decode cX8_seen 15 = .ok (.iconst 1, 1) := by decide +kernel
theorem dX8_seen_16 : decode cX8_seen 16 = .ok (.bipush 8, 2) := by decide +kernel
theorem dX8_seen_18 : decode cX8_seen 18 = .ok (.invokestatic 69, 3) := by decide +kernel
theorem dX8_seen_21 : decode cX8_seen 21 = .ok (.ifCond .eq 18, 3) := by decide +kernel
theorem dX8_seen_24 : decode cX8_seen 24 = .ok (.iload_n 3, 1) := by decide +kernel
theorem dX8_seen_25 : decode cX8_seen 25 = .ok (.iconst 0, 1) := by decide +kernel
theorem dX8_seen_26 : decode cX8_seen 26 = .ok (.aload_n 0, 1) := by decide +kernel
theorem dX8_seen_27 : decode cX8_seen 27 = .ok (.getfield 32, 3) := by decide +kernel
theorem dX8_seen_30 : decode cX8_seen 30 = .ok (.getfield 137, 3) := by decide +kernel
theorem dX8_seen_33 : decode cX8_seen 33 = .ok (.invokestatic 69, 3) := by decide +kernel
theorem dX8_seen_36 : decode cX8_seen 36 = .ok (.ifCond .ne 6, 3) := by decide +kernel
theorem dX8_seen_39 : decode cX8_seen 39 = .ok (.bipush (-3), 2) := by decide +kernel
theorem dX8_seen_41 : decode cX8_seen 41 = .ok (.ireturn, 1) := by decide +kernel
theorem dX8_seen_42 : decode cX8_seen 42 = .ok (.aload_n 0, 1) := by decide +kernel
theorem dX8_seen_43 : decode cX8_seen 43 = .ok (.getfield 51, 3) := by decide +kernel
theorem dX8_seen_46 : decode cX8_seen 46 = .ok (.getfield 97, 3) := by decide +kernel
theorem dX8_seen_49 : decode cX8_seen 49 = .ok (.bipush 6, 2) := by decide +kernel
theorem dX8_seen_51 : decode cX8_seen 51 = .ok (.if_icmp .lt 6, 3) := by decide +kernel
theorem dX8_seen_54 : decode cX8_seen 54 = .ok (.bipush (-5), 2) := by decide +kernel
theorem dX8_seen_56 : decode cX8_seen 56 = .ok (.ireturn, 1) := by decide +kernel
theorem dX8_seen_57 : decode cX8_seen 57 = .ok (.aload_n 0, 1) := by decide +kernel
theorem dX8_seen_58 : decode cX8_seen 58 = .ok (.getfield 51, 3) := by decide +kernel
theorem dX8_seen_61 : decode cX8_seen 61 = .ok (.iload_n 1, 1) := by decide +kernel
theorem dX8_seen_62 : decode cX8_seen 62 = .ok (.iload_n 2, 1) := by decide +kernel
theorem dX8_seen_63 : decode cX8_seen 63 = .ok (.iload_n 3, 1) := by decide +kernel
theorem dX8_seen_64 : decode cX8_seen 64 = .ok (.invokevirtual 223, 3) := by decide +kernel
theorem dX8_seen_67 : decode cX8_seen 67 = .ok (.aload_n 0, 1) := by decide +kernel
theorem dX8_seen_68 : decode cX8_seen 68 = .ok (.getfield 51, 3) := by decide +kernel
theorem dX8_seen_71 : decode cX8_seen 71 = .ok (.getfield 97, 3) := by decide +kernel
theorem dX8_seen_74 : decode cX8_seen 74 = .ok (.ireturn, 1) := by decide +kernel
theorem dX8_forget_0 : decode cX8_forget 0 = .ok (.aload_n 0, 1) := by decide +kernel
theorem dX8_forget_1 : decode cX8_forget 1 = .ok (.getfield 51, 3) := by decide +kernel
theorem dX8_forget_4 : decode cX8_forget 4 = .ok (.getfield 97, 3) := by decide +kernel
theorem dX8_forget_7 : decode cX8_forget 7 = .ok (.istore_n 1, 1) := by decide +kernel
theorem dX8_forget_8 : decode cX8_forget 8 = .ok (.aload_n 0, 1) := by decide +kernel
theorem dX8_forget_9 : decode cX8_forget 9 = .ok (.getfield 51, 3) := by decide +kernel
theorem dX8_forget_12 : decode cX8_forget 12 = .ok (.iconst 0, 1) := by decide +kernel
theorem dX8_forget_13 : decode cX8_forget 13 = .ok (.putfield 97, 3) := by decide +kernel
theorem dX8_forget_16 : decode cX8_forget 16 = .ok (.iload_n 1, 1) := by decide +kernel
theorem dX8_forget_17 : decode cX8_forget 17 = .ok (.ireturn, 1) := by decide +kernel
theorem dX8_what_0 : decode cX8_what 0 = .ok (.aload_n 0, 1) := by decide +kernel
theorem dX8_what_1 : decode cX8_what 1 = .ok (.getfield 32, 3) := by decide +kernel
theorem dX8_what_4 : decode cX8_what 4 = .ok (.iload_n 1, 1) := by decide +kernel
theorem dX8_what_5 : decode cX8_what 5 = .ok (.invokevirtual 107, 3) := by decide +kernel
theorem dX8_what_8 : decode cX8_what 8 = .ok (.ifCond .ne 6, 3) := by decide +kernel
theorem dX8_what_11 : decode cX8_what 11 = .ok (.bipush (-2), 2) := by decide +kernel
theorem dX8_what_13 : decode cX8_what 13 = .ok (.ireturn, 1) := by decide +kernel
theorem dX8_what_14 : decode cX8_what 14 = .ok (.iconst 0, 1) := by decide +kernel
theorem dX8_what_15 : decode cX8_what 15 = .ok (.istore_n 2, 1) := by decide +kernel
theorem dX8_what_16 : decode cX8_what 16 = .ok (.iconst 0, 1) := by decide +kernel
theorem dX8_what_17 : decode cX8_what 17 = .ok (.istore_n 3, 1) := by decide +kernel
theorem dX8_what_18 : decode cX8_what 18 = .ok (.iload_n 3, 1) := by decide +kernel
theorem dX8_what_19 : decode cX8_what 19 = .ok (.iconst 3, 1) := by decide +kernel
theorem dX8_what_20 : decode cX8_what 20 = .ok (.if_icmp .gt 31, 3) := by decide +kernel
theorem dX8_what_23 : decode cX8_what 23 = .ok (.aload_n 0, 1) := by decide +kernel
theorem dX8_what_24 : decode cX8_what 24 = .ok (.getfield 51, 3) := by decide +kernel
theorem dX8_what_27 : decode cX8_what 27 = .ok (.aload_n 0, 1) := by decide +kernel
theorem dX8_what_28 : decode cX8_what 28 = .ok (.getfield 32, 3) := by decide +kernel
theorem dX8_what_31 : decode cX8_what 31 = .ok (.iload_n 1, 1) := by decide +kernel
theorem dX8_what_32 : decode cX8_what 32 = .ok (.iload_n 3, 1) := by decide +kernel
theorem dX8_what_33 : decode cX8_what 33 = .ok (.invokevirtual 224, 3) := by decide +kernel
theorem dX8_what_36 : decode cX8_what 36 = .ok (.ifCond .eq 9, 3) := by decide +kernel
theorem dX8_what_39 : decode cX8_what 39 = .ok (.iload_n 2, 1) := by decide +kernel
theorem dX8_what_40 : decode cX8_what 40 = .ok (.iconst 1, 1) := by decide +kernel
theorem dX8_what_41 : decode cX8_what 41 = .ok (.iload_n 3, 1) := by decide +kernel
theorem dX8_what_42 : decode cX8_what 42 = .ok (.ishl, 1) := by decide +kernel
theorem dX8_what_43 : decode cX8_what 43 = .ok (.ior, 1) := by decide +kernel
theorem dX8_what_44 : decode cX8_what 44 = .ok (.istore_n 2, 1) := by decide +kernel
theorem dX8_what_45 : decode cX8_what 45 = .ok (.iinc 3 1, 3) := by decide +kernel
theorem dX8_what_48 : decode cX8_what 48 = .ok (.goto (-30), 3) := by decide +kernel
theorem dX8_what_51 : decode cX8_what 51 = .ok (.iload_n 2, 1) := by decide +kernel
theorem dX8_what_52 : decode cX8_what 52 = .ok (.ireturn, 1) := by decide +kernel
theorem dX8_miles_0 : decode cX8_miles 0 = .ok (.iload_n 1, 1) := by decide +kernel
theorem dX8_miles_1 : decode cX8_miles 1 = .ok (.iconst 0, 1) := by decide +kernel
theorem dX8_miles_2 : decode cX8_miles 2 = .ok (.iconst 1, 1) := by decide +kernel
theorem dX8_miles_3 : decode cX8_miles 3 = .ok (.invokestatic 69, 3) := by decide +kernel
theorem dX8_miles_6 : decode cX8_miles 6 = .ok (.ifCond .ne 6, 3) := by decide +kernel
theorem dX8_miles_9 : decode cX8_miles 9 = .ok (.bipush (-3), 2) := by decide +kernel
theorem dX8_miles_11 : decode cX8_miles 11 = .ok (.ireturn, 1) := by decide +kernel
theorem dX8_miles_12 : decode cX8_miles 12 = .ok (.iconst 0, 1) := by decide +kernel
theorem dX8_miles_13 : decode cX8_miles 13 = .ok (.istore_n 2, 1) := by decide +kernel
theorem dX8_miles_14 : decode cX8_miles 14 = .ok (.iconst (-1), 1) := by decide +kernel
theorem dX8_miles_15 : decode cX8_miles 15 = .ok (.istore_n 3, 1) := by decide +kernel
theorem dX8_miles_16 : decode cX8_miles 16 = .ok (.bipush 40, 2) := by decide +kernel
theorem dX8_miles_18 : decode cX8_miles 18 = .ok (.istore 4, 2) := by decide +kernel
theorem dX8_miles_20 : decode cX8_miles 20 = .ok (.iload 4, 2) := by decide +kernel
theorem dX8_miles_22 : decode cX8_miles 22 = .ok (.iconst 1, 1) := by decide +kernel
theorem dX8_miles_23 : decode cX8_miles 23 = .ok (.if_icmp .lt 31, 3) := by decide +kernel
theorem dX8_miles_26 : decode cX8_miles 26 = .ok (.aload_n 0, 1) := by decide +kernel
theorem dX8_miles_27 : decode cX8_miles 27 = .ok (.getfield 51, 3) := by decide +kernel
theorem dX8_miles_30 : decode cX8_miles 30 = .ok (.aload_n 0, 1) := by decide +kernel
theorem dX8_miles_31 : decode cX8_miles 31 = .ok (.getfield 32, 3) := by decide +kernel
theorem dX8_miles_34 : decode cX8_miles 34 = .ok (.iload 4, 2) := by decide +kernel
theorem dX8_miles_36 : decode cX8_miles 36 = .ok (.invokevirtual 228, 3) := by decide +kernel
theorem dX8_miles_39 : decode cX8_miles 39 = .ok (.ifCond .eq 9, 3) := by decide +kernel
theorem dX8_miles_42 : decode cX8_miles 42 = .ok (.iinc 2 1, 3) := by decide +kernel
theorem dX8_miles_45 : decode cX8_miles 45 = .ok (.iload 4, 2) := by decide +kernel
theorem dX8_miles_47 : decode cX8_miles 47 = .ok (.istore_n 3, 1) := by decide +kernel
theorem dX8_miles_48 : decode cX8_miles 48 = .ok (.iinc 4 (-1), 3) := by decide +kernel
theorem dX8_miles_51 : decode cX8_miles 51 = .ok (.goto (-31), 3) := by decide +kernel
theorem dX8_miles_54 : decode cX8_miles 54 = .ok (.iload_n 1, 1) := by decide +kernel
theorem dX8_miles_55 : decode cX8_miles 55 = .ok (.ifCond .ne 7, 3) := by decide +kernel
theorem dX8_miles_58 : decode cX8_miles 58 = .ok (.iload_n 2, 1) := by decide +kernel
theorem dX8_miles_59 : decode cX8_miles 59 = .ok (.goto 4, 3) := by decide +kernel
theorem dX8_miles_62 : decode cX8_miles 62 = .ok (.iload_n 3, 1) := by decide +kernel
theorem dX8_miles_63 : decode cX8_miles 63 = .ok (.ireturn, 1) := by decide +kernel
theorem dX8_cider_0 : decode cX8_cider 0 = .ok (.iload_n 1, 1) := by decide +kernel
theorem dX8_cider_1 : decode cX8_cider 1 = .ok (.iconst 1, 1) := by decide +kernel
theorem dX8_cider_2 : decode cX8_cider 2 = .ok (.bipush 8, 2) := by decide +kernel
theorem dX8_cider_4 : decode cX8_cider 4 = .ok (.invokestatic 69, 3) := by decide +kernel
theorem dX8_cider_7 : decode cX8_cider 7 = .ok (.ifCond .eq 38, 3) := by decide +kernel
theorem dX8_cider_10 : decode cX8_cider 10 = .ok (.iload_n 2, 1) := by decide +kernel
theorem dX8_cider_11 : decode cX8_cider 11 = .ok (.iconst 0, 1) := by decide +kernel
theorem dX8_cider_12 : decode cX8_cider 12 = .ok (.aload_n 0, 1) := by decide +kernel
theorem dX8_cider_13 : decode cX8_cider 13 = .ok (.getfield 32, 3) := by decide +kernel
theorem dX8_cider_16 : decode cX8_cider 16 = .ok (.getfield 137, 3) := by decide +kernel
theorem dX8_cider_19 : decode cX8_cider 19 = .ok (.invokestatic 69, 3) := by decide +kernel
theorem dX8_cider_22 : decode cX8_cider 22 = .ok (.ifCond .eq 23, 3) := by decide +kernel
theorem dX8_cider_25 : decode cX8_cider 25 = .ok (.iload_n 3, 1) := by decide +kernel
theorem dX8_cider_26 : decode cX8_cider 26 = .ok (.iconst 0, 1) := by decide +kernel
theorem dX8_cider_27 : decode cX8_cider 27 = .ok (.bipush 10, 2) := by decide +kernel
theorem dX8_cider_29 : decode cX8_cider 29 = .ok (.invokestatic 69, 3) := by decide +kernel
theorem dX8_cider_32 : decode cX8_cider 32 = .ok (.ifCond .eq 13, 3) := by decide +kernel
theorem dX8_cider_35 : decode cX8_cider 35 = .ok (.iload 4, 2) := by decide +kernel
theorem dX8_cider_37 : decode cX8_cider 37 = .ok (.iconst 0, 1) := by decide +kernel
theorem dX8_cider_38 : decode cX8_cider 38 = .ok (.iconst 1, 1) := by decide +kernel
theorem dX8_cider_39 : decode cX8_cider 39 = .ok (.invokestatic 69, 3) := by decide +kernel
theorem dX8_cider_42 : decode cX8_cider 42 = .ok (.ifCond .ne 6, 3) := by decide +kernel
theorem dX8_cider_45 : decode cX8_cider 45 = .ok (.bipush (-3), 2) := by decide +kernel
theorem dX8_cider_47 : decode cX8_cider 47 = .ok (.ireturn, 1) := by decide +kernel
theorem dX8_cider_48 : decode cX8_cider 48 = .ok (.aload_n 0, 1) := by decide +kernel
theorem dX8_cider_49 : decode cX8_cider 49 = .ok (.getfield 58, 3) := by decide +kernel
theorem dX8_cider_52 : decode cX8_cider 52 = .ok (.aload_n 0, 1) := by decide +kernel
theorem dX8_cider_53 : decode cX8_cider 53 = .ok (.getfield 32, 3) := by decide +kernel
theorem dX8_cider_56 : decode cX8_cider 56 = .ok (.iload_n 1, 1) := by decide +kernel
theorem dX8_cider_57 : decode cX8_cider 57 = .ok (.invokevirtual 179, 3) := by decide +kernel
theorem dX8_cider_60 : decode cX8_cider 60 = .ok (.aload_n 0, 1) := by decide +kernel
theorem dX8_cider_61 : decode cX8_cider 61 = .ok (.iload_n 2, 1) := by decide +kernel
theorem dX8_cider_62 : decode cX8_cider 62 = .ok (.iload_n 3, 1) := by decide +kernel
theorem dX8_cider_63 : decode cX8_cider 63 = .ok (.invokevirtual 232, 3) := by decide +kernel
theorem dX8_cider_66 : decode cX8_cider 66 = .ok (.bipush 10, 2) := by decide +kernel
theorem dX8_cider_68 : decode cX8_cider 68 = .ok (.aload_n 0, 1) := by decide +kernel
theorem dX8_cider_69 : decode cX8_cider 69 = .ok (.getfield 32, 3) := by decide +kernel
theorem dX8_cider_72 : decode cX8_cider 72 = .ok (.getfield 235, 3) := by decide +kernel
theorem dX8_cider_75 : decode cX8_cider 75 = .ok (.invokestatic 238, 3) := by decide +kernel
theorem dX8_cider_78 : decode cX8_cider 78 = .ok (.iload 4, 2) := by decide +kernel
theorem dX8_cider_80 : decode cX8_cider 80 = .ok (.invokestatic 189, 3) := by decide +kernel
theorem dX8_cider_83 : decode cX8_cider 83 = .ok (.ireturn, 1) := by decide +kernel
theorem dX8_count_0 : decode cX8_count 0 = .ok (.iload_n 1, 1) := by decide +kernel
theorem dX8_count_1 : decode cX8_count 1 = .ok (.tableswitch 128 0 8 #[51, 59, 67, 75, 83, 91, 104, 112, 120], 51) := by decide +kernel
theorem dX8_count_52 : decode cX8_count 52 = .ok (.aload_n 0, 1) := by decide +kernel
theorem dX8_count_53 : decode cX8_count 53 = .ok (.getfield 32, 3) := by decide +kernel
theorem dX8_count_56 : decode cX8_count 56 = .ok (.getfield 137, 3) := by decide +kernel
theorem dX8_count_59 : decode cX8_count 59 = .ok (.ireturn, 1) := by decide +kernel
theorem dX8_count_60 : decode cX8_count 60 = .ok (.aload_n 0, 1) := by decide +kernel
theorem dX8_count_61 : decode cX8_count 61 = .ok (.getfield 32, 3) := by decide +kernel
theorem dX8_count_64 : decode cX8_count 64 = .ok (.getfield 235, 3) := by decide +kernel
theorem dX8_count_67 : decode cX8_count 67 = .ok (.ireturn, 1) := by decide +kernel
theorem dX8_count_68 : decode cX8_count 68 = .ok (.aload_n 0, 1) := by decide +kernel
theorem dX8_count_69 : decode cX8_count 69 = .ok (.getfield 32, 3) := by decide +kernel
theorem dX8_count_72 : decode cX8_count 72 = .ok (.getfield 157, 3) := by decide +kernel
theorem dX8_count_75 : decode cX8_count 75 = .ok (.ireturn, 1) := by decide +kernel
theorem dX8_count_76 : decode cX8_count 76 = .ok (.aload_n 0, 1) := by decide +kernel
theorem dX8_count_77 : decode cX8_count 77 = .ok (.getfield 32, 3) := by decide +kernel
theorem dX8_count_80 : decode cX8_count 80 = .ok (.getfield 167, 3) := by decide +kernel
theorem dX8_count_83 : decode cX8_count 83 = .ok (.ireturn, 1) := by decide +kernel
theorem dX8_count_84 : decode cX8_count 84 = .ok (.aload_n 0, 1) := by decide +kernel
theorem dX8_count_85 : decode cX8_count 85 = .ok (.getfield 32, 3) := by decide +kernel
theorem dX8_count_88 : decode cX8_count 88 = .ok (.invokevirtual 241, 3) := by decide +kernel
theorem dX8_count_91 : decode cX8_count 91 = .ok (.ireturn, 1) := by decide +kernel
theorem dX8_count_92 : decode cX8_count 92 = .ok (.aload_n 0, 1) := by decide +kernel
theorem dX8_count_93 : decode cX8_count 93 = .ok (.iconst (-1), 1) := by decide +kernel
theorem dX8_count_94 : decode cX8_count 94 = .ok (.aload_n 0, 1) := by decide +kernel
theorem dX8_count_95 : decode cX8_count 95 = .ok (.getfield 32, 3) := by decide +kernel
theorem dX8_count_98 : decode cX8_count 98 = .ok (.getfield 137, 3) := by decide +kernel
theorem dX8_count_101 : decode cX8_count 101 = .ok (.invokevirtual 203, 3) := by decide +kernel
theorem dX8_count_104 : decode cX8_count 104 = .ok (.ireturn, 1) := by decide +kernel
theorem dX8_count_105 : decode cX8_count 105 = .ok (.aload_n 0, 1) := by decide +kernel
theorem dX8_count_106 : decode cX8_count 106 = .ok (.getfield 51, 3) := by decide +kernel
theorem dX8_count_109 : decode cX8_count 109 = .ok (.getfield 97, 3) := by decide +kernel
theorem dX8_count_112 : decode cX8_count 112 = .ok (.ireturn, 1) := by decide +kernel
theorem dX8_count_113 : decode cX8_count 113 = .ok (.aload_n 0, 1) := by decide +kernel
theorem dX8_count_114 : decode cX8_count 114 = .ok (.getfield 44, 3) := by decide +kernel
theorem dX8_count_117 : decode cX8_count 117 = .ok (.getfield 100, 3) := by decide +kernel
theorem dX8_count_120 : decode cX8_count 120 = .ok (.ireturn, 1) := by decide +kernel
theorem dX8_count_121 : decode cX8_count 121 = .ok (.aload_n 0, 1) := by decide +kernel
theorem dX8_count_122 : decode cX8_count 122 = .ok (.getfield 10, 3) := by decide +kernel
theorem dX8_count_125 : decode cX8_count 125 = .ok (.getfield 73, 3) := by decide +kernel
theorem dX8_count_128 : decode cX8_count 128 = .ok (.ireturn, 1) := by decide +kernel
theorem dX8_count_129 : decode cX8_count 129 = .ok (.bipush (-3), 2) := by decide +kernel
theorem dX8_count_131 : decode cX8_count 131 = .ok (.ireturn, 1) := by decide +kernel
theorem dX8_within_0 : decode cX8_within 0 = .ok (.iload_n 0, 1) := by decide +kernel
theorem dX8_within_1 : decode cX8_within 1 = .ok (.iload_n 1, 1) := by decide +kernel
theorem dX8_within_2 : decode cX8_within 2 = .ok (.if_icmp .lt 12, 3) := by decide +kernel
theorem dX8_within_5 : decode cX8_within 5 = .ok (.iload_n 0, 1) := by decide +kernel
theorem dX8_within_6 : decode cX8_within 6 = .ok (.iload_n 2, 1) := by decide +kernel
theorem dX8_within_7 : decode cX8_within 7 = .ok (.if_icmp .gt 7, 3) := by decide +kernel
theorem dX8_within_10 : decode cX8_within 10 = .ok (.iconst 1, 1) := by decide +kernel
theorem dX8_within_11 : decode cX8_within 11 = .ok (.goto 4, 3) := by decide +kernel
theorem dX8_within_14 : decode cX8_within 14 = .ok (.iconst 0, 1) := by decide +kernel
theorem dX8_within_15 : decode cX8_within 15 = .ok (.ireturn, 1) := by decide +kernel
theorem dX8_canBeTakenAs_0 : decode cX8_canBeTakenAs 0 = .ok (.iload_n 1, 1) := by decide +kernel
theorem dX8_canBeTakenAs_1 : decode cX8_canBeTakenAs 1 = .ok (.ifCond .ne 5, 3) := by decide +kernel
theorem dX8_canBeTakenAs_4 : decode cX8_canBeTakenAs 4 = .ok (.iconst 1, 1) := by decide +kernel
theorem dX8_canBeTakenAs_5 : decode cX8_canBeTakenAs 5 = .ok (.ireturn, 1) := by decide +kernel
theorem dX8_canBeTakenAs_6 : decode cX8_canBeTakenAs 6 = .ok (.iload_n 1, 1) := by decide +kernel
theorem dX8_canBeTakenAs_7 : decode cX8_canBeTakenAs 7 = .ok (.iconst 1, 1) := by decide +kernel
theorem dX8_canBeTakenAs_8 : decode cX8_canBeTakenAs 8 = .ok (.if_icmp .ne 14, 3) := by decide +kernel
theorem dX8_canBeTakenAs_11 : decode cX8_canBeTakenAs 11 = .ok (.iload_n 0, 1) := by decide +kernel
theorem dX8_canBeTakenAs_12 : decode cX8_canBeTakenAs 12 = .ok (.iconst 3, 1) := by decide +kernel
theorem dX8_canBeTakenAs_13 : decode cX8_canBeTakenAs 13 = .ok (.if_icmp .eq 7, 3) := by decide +kernel
theorem dX8_canBeTakenAs_16 : decode cX8_canBeTakenAs 16 = .ok (.iconst 1, 1) := by decide +kernel
theorem dX8_canBeTakenAs_17 : decode cX8_canBeTakenAs 17 = .ok (.goto 4, 3) := by decide +kernel
theorem dX8_canBeTakenAs_20 : decode cX8_canBeTakenAs 20 = .ok (.iconst 0, 1) := by decide +kernel
theorem dX8_canBeTakenAs_21 : decode cX8_canBeTakenAs 21 = .ok (.ireturn, 1) := by decide +kernel
theorem dX8_canBeTakenAs_22 : decode cX8_canBeTakenAs 22 = .ok (.iload_n 0, 1) := by decide +kernel
theorem dX8_canBeTakenAs_23 : decode cX8_canBeTakenAs 23 = .ok (.iload_n 1, 1) := by decide +kernel
theorem dX8_canBeTakenAs_24 : decode cX8_canBeTakenAs 24 = .ok (.iconst 1, 1) := by decide +kernel
theorem dX8_canBeTakenAs_25 : decode cX8_canBeTakenAs 25 = .ok (.isub, 1) := by decide +kernel
theorem dX8_canBeTakenAs_26 : decode cX8_canBeTakenAs 26 = .ok (.if_icmp .ne 7, 3) := by decide +kernel
theorem dX8_canBeTakenAs_29 : decode cX8_canBeTakenAs 29 = .ok (.iconst 1, 1) := by decide +kernel
theorem dX8_canBeTakenAs_30 : decode cX8_canBeTakenAs 30 = .ok (.goto 4, 3) := by decide +kernel
theorem dX8_canBeTakenAs_33 : decode cX8_canBeTakenAs 33 = .ok (.iconst 0, 1) := by decide +kernel
theorem dX8_canBeTakenAs_34 : decode cX8_canBeTakenAs 34 = .ok (.ireturn, 1) := by decide +kernel
theorem dX8_keptAs_0 : decode cX8_keptAs 0 = .ok (.iload_n 1, 1) := by decide +kernel
theorem dX8_keptAs_1 : decode cX8_keptAs 1 = .ok (.ifCond .ne 10, 3) := by decide +kernel
theorem dX8_keptAs_4 : decode cX8_keptAs 4 = .ok (.aload_n 0, 1) := by decide +kernel
theorem dX8_keptAs_5 : decode cX8_keptAs 5 = .ok (.getfield 35, 3) := by decide +kernel
theorem dX8_keptAs_8 : decode cX8_keptAs 8 = .ok (.goto 7, 3) := by decide +kernel
theorem dX8_keptAs_11 : decode cX8_keptAs 11 = .ok (.aload_n 0, 1) := by decide +kernel
theorem dX8_keptAs_12 : decode cX8_keptAs 12 = .ok (.getfield 38, 3) := by decide +kernel
theorem dX8_keptAs_15 : decode cX8_keptAs 15 = .ok (.areturn, 1) := by decide +kernel
theorem dX8_crossesNext_0 : decode cX8_crossesNext 0 = .ok (.aload_n 0, 1) := by decide +kernel
theorem dX8_crossesNext_1 : decode cX8_crossesNext 1 = .ok (.getfield 58, 3) := by decide +kernel
theorem dX8_crossesNext_4 : decode cX8_crossesNext 4 = .ok (.aload_n 0, 1) := by decide +kernel
theorem dX8_crossesNext_5 : decode cX8_crossesNext 5 = .ok (.getfield 32, 3) := by decide +kernel
theorem dX8_crossesNext_8 : decode cX8_crossesNext 8 = .ok (.iload_n 1, 1) := by decide +kernel
theorem dX8_crossesNext_9 : decode cX8_crossesNext 9 = .ok (.invokevirtual 179, 3) := by decide +kernel
theorem dX8_crossesNext_12 : decode cX8_crossesNext 12 = .ok (.aload_n 0, 1) := by decide +kernel
theorem dX8_crossesNext_13 : decode cX8_crossesNext 13 = .ok (.getfield 58, 3) := by decide +kernel
theorem dX8_crossesNext_16 : decode cX8_crossesNext 16 = .ok (.aload_n 0, 1) := by decide +kernel
theorem dX8_crossesNext_17 : decode cX8_crossesNext 17 = .ok (.getfield 32, 3) := by decide +kernel
theorem dX8_crossesNext_20 : decode cX8_crossesNext 20 = .ok (.getfield 167, 3) := by decide +kernel
theorem dX8_crossesNext_23 : decode cX8_crossesNext 23 = .ok (.invokevirtual 186, 3) := by decide +kernel
theorem dX8_crossesNext_26 : decode cX8_crossesNext 26 = .ok (.istore_n 2, 1) := by decide +kernel
theorem dX8_crossesNext_27 : decode cX8_crossesNext 27 = .ok (.aload_n 0, 1) := by decide +kernel
theorem dX8_crossesNext_28 : decode cX8_crossesNext 28 = .ok (.getfield 58, 3) := by decide +kernel
theorem dX8_crossesNext_31 : decode cX8_crossesNext 31 = .ok (.aload_n 0, 1) := by decide +kernel
theorem dX8_crossesNext_32 : decode cX8_crossesNext 32 = .ok (.getfield 32, 3) := by decide +kernel
theorem dX8_crossesNext_35 : decode cX8_crossesNext 35 = .ok (.getfield 167, 3) := by decide +kernel
theorem dX8_crossesNext_38 : decode cX8_crossesNext 38 = .ok (.invokevirtual 183, 3) := by decide +kernel
theorem dX8_crossesNext_41 : decode cX8_crossesNext 41 = .ok (.istore_n 3, 1) := by decide +kernel
theorem dX8_crossesNext_42 : decode cX8_crossesNext 42 = .ok (.aload_n 0, 1) := by decide +kernel
theorem dX8_crossesNext_43 : decode cX8_crossesNext 43 = .ok (.getfield 58, 3) := by decide +kernel
theorem dX8_crossesNext_46 : decode cX8_crossesNext 46 = .ok (.aload_n 0, 1) := by decide +kernel
theorem dX8_crossesNext_47 : decode cX8_crossesNext 47 = .ok (.getfield 32, 3) := by decide +kernel
theorem dX8_crossesNext_50 : decode cX8_crossesNext 50 = .ok (.iload_n 1, 1) := by decide +kernel
theorem dX8_crossesNext_51 : decode cX8_crossesNext 51 = .ok (.iconst 1, 1) := by decide +kernel
theorem dX8_crossesNext_52 : decode cX8_crossesNext 52 = .ok (.iadd, 1) := by decide +kernel
theorem dX8_crossesNext_53 : decode cX8_crossesNext 53 = .ok (.invokevirtual 179, 3) := by decide +kernel
theorem dX8_crossesNext_56 : decode cX8_crossesNext 56 = .ok (.aload_n 0, 1) := by decide +kernel
theorem dX8_crossesNext_57 : decode cX8_crossesNext 57 = .ok (.getfield 58, 3) := by decide +kernel
theorem dX8_crossesNext_60 : decode cX8_crossesNext 60 = .ok (.aload_n 0, 1) := by decide +kernel
theorem dX8_crossesNext_61 : decode cX8_crossesNext 61 = .ok (.getfield 32, 3) := by decide +kernel
theorem dX8_crossesNext_64 : decode cX8_crossesNext 64 = .ok (.getfield 167, 3) := by decide +kernel
theorem dX8_crossesNext_67 : decode cX8_crossesNext 67 = .ok (.invokevirtual 186, 3) := by decide +kernel
theorem dX8_crossesNext_70 : decode cX8_crossesNext 70 = .ok (.istore 4, 2) := by decide +kernel
theorem dX8_crossesNext_72 : decode cX8_crossesNext 72 = .ok (.aload_n 0, 1) := by decide +kernel
theorem dX8_crossesNext_73 : decode cX8_crossesNext 73 = .ok (.getfield 58, 3) := by decide +kernel
theorem dX8_crossesNext_76 : decode cX8_crossesNext 76 = .ok (.aload_n 0, 1) := by decide +kernel
theorem dX8_crossesNext_77 : decode cX8_crossesNext 77 = .ok (.getfield 32, 3) := by decide +kernel
theorem dX8_crossesNext_80 : decode cX8_crossesNext 80 = .ok (.getfield 167, 3) := by decide +kernel
theorem dX8_crossesNext_83 : decode cX8_crossesNext 83 = .ok (.invokevirtual 183, 3) := by decide +kernel
theorem dX8_crossesNext_86 : decode cX8_crossesNext 86 = .ok (.istore 5, 2) := by decide +kernel
theorem dX8_crossesNext_88 : decode cX8_crossesNext 88 = .ok (.iload_n 3, 1) := by decide +kernel
theorem dX8_crossesNext_89 : decode cX8_crossesNext 89 = .ok (.ifCond .le 23, 3) := by decide +kernel
theorem dX8_crossesNext_92 : decode cX8_crossesNext 92 = .ok (.iload 5, 2) := by decide +kernel
theorem dX8_crossesNext_94 : decode cX8_crossesNext 94 = .ok (.ifCond .le 18, 3) := by decide +kernel
theorem dX8_crossesNext_97 : decode cX8_crossesNext 97 = .ok (.iload 4, 2) := by decide +kernel
theorem dX8_crossesNext_99 : decode cX8_crossesNext 99 = .ok (.iload_n 3, 1) := by decide +kernel
theorem dX8_crossesNext_100 : decode cX8_crossesNext 100 = .ok (.imul, 1) := by decide +kernel
theorem dX8_crossesNext_101 : decode cX8_crossesNext 101 = .ok (.iload_n 2, 1) := by decide +kernel
theorem dX8_crossesNext_102 : decode cX8_crossesNext 102 = .ok (.iload 5, 2) := by decide +kernel
theorem dX8_crossesNext_104 : decode cX8_crossesNext 104 = .ok (.imul, 1) := by decide +kernel
theorem dX8_crossesNext_105 : decode cX8_crossesNext 105 = .ok (.if_icmp .gt 7, 3) := by decide +kernel
theorem dX8_crossesNext_108 : decode cX8_crossesNext 108 = .ok (.iconst 1, 1) := by decide +kernel
theorem dX8_crossesNext_109 : decode cX8_crossesNext 109 = .ok (.goto 4, 3) := by decide +kernel
theorem dX8_crossesNext_112 : decode cX8_crossesNext 112 = .ok (.iconst 0, 1) := by decide +kernel
theorem dX8_crossesNext_113 : decode cX8_crossesNext 113 = .ok (.ireturn, 1) := by decide +kernel
theorem dX8_lawStonesBetween_0 : decode cX8_lawStonesBetween 0 = .ok (.iconst 0, 1) := by decide +kernel
theorem dX8_lawStonesBetween_1 : decode cX8_lawStonesBetween 1 = .ok (.istore_n 3, 1) := by decide +kernel
theorem dX8_lawStonesBetween_2 : decode cX8_lawStonesBetween 2 = .ok (.iconst 1, 1) := by decide +kernel
theorem dX8_lawStonesBetween_3 : decode cX8_lawStonesBetween 3 = .ok (.istore 4, 2) := by decide +kernel
theorem dX8_lawStonesBetween_5 : decode cX8_lawStonesBetween 5 = .ok (.iload 4, 2) := by decide +kernel
theorem dX8_lawStonesBetween_7 : decode cX8_lawStonesBetween 7 = .ok (.bipush 8, 2) := by decide +kernel
theorem dX8_lawStonesBetween_9 : decode cX8_lawStonesBetween 9 = .ok (.if_icmp .gt 80, 3) := by decide +kernel
theorem dX8_lawStonesBetween_12 : decode cX8_lawStonesBetween 12 = .ok (.aload_n 0, 1) := by decide +kernel
theorem dX8_lawStonesBetween_13 : decode cX8_lawStonesBetween 13 = .ok (.getfield 58, 3) := by decide +kernel
theorem dX8_lawStonesBetween_16 : decode cX8_lawStonesBetween 16 = .ok (.aload_n 0, 1) := by decide +kernel
theorem dX8_lawStonesBetween_17 : decode cX8_lawStonesBetween 17 = .ok (.getfield 32, 3) := by decide +kernel
theorem dX8_lawStonesBetween_20 : decode cX8_lawStonesBetween 20 = .ok (.iload 4, 2) := by decide +kernel
theorem dX8_lawStonesBetween_22 : decode cX8_lawStonesBetween 22 = .ok (.invokevirtual 179, 3) := by decide +kernel
theorem dX8_lawStonesBetween_25 : decode cX8_lawStonesBetween 25 = .ok (.aload_n 0, 1) := by decide +kernel
theorem dX8_lawStonesBetween_26 : decode cX8_lawStonesBetween 26 = .ok (.getfield 58, 3) := by decide +kernel
theorem dX8_lawStonesBetween_29 : decode cX8_lawStonesBetween 29 = .ok (.aload_n 0, 1) := by decide +kernel
theorem dX8_lawStonesBetween_30 : decode cX8_lawStonesBetween 30 = .ok (.getfield 32, 3) := by decide +kernel
theorem dX8_lawStonesBetween_33 : decode cX8_lawStonesBetween 33 = .ok (.getfield 167, 3) := by decide +kernel
theorem dX8_lawStonesBetween_36 : decode cX8_lawStonesBetween 36 = .ok (.invokevirtual 186, 3) := by decide +kernel
theorem dX8_lawStonesBetween_39 : decode cX8_lawStonesBetween 39 = .ok (.istore 5, 2) := by decide +kernel
theorem dX8_lawStonesBetween_41 : decode cX8_lawStonesBetween 41 = .ok (.aload_n 0, 1) := by decide +kernel
theorem dX8_lawStonesBetween_42 : decode cX8_lawStonesBetween 42 = .ok (.getfield 58, 3) := by decide +kernel
theorem dX8_lawStonesBetween_45 : decode cX8_lawStonesBetween 45 = .ok (.aload_n 0, 1) := by decide +kernel
theorem dX8_lawStonesBetween_46 : decode cX8_lawStonesBetween 46 = .ok (.getfield 32, 3) := by decide +kernel
theorem dX8_lawStonesBetween_49 : decode cX8_lawStonesBetween 49 = .ok (.getfield 167, 3) := by decide +kernel
theorem dX8_lawStonesBetween_52 : decode cX8_lawStonesBetween 52 = .ok (.invokevirtual 183, 3) := by decide +kernel
theorem dX8_lawStonesBetween_55 : decode cX8_lawStonesBetween 55 = .ok (.istore 6, 2) := by decide +kernel
theorem dX8_lawStonesBetween_57 : decode cX8_lawStonesBetween 57 = .ok (.iload 6, 2) := by decide +kernel
theorem dX8_lawStonesBetween_59 : decode cX8_lawStonesBetween 59 = .ok (.ifCond .le 24, 3) := by decide +kernel
theorem dX8_lawStonesBetween_62 : decode cX8_lawStonesBetween 62 = .ok (.iload 5, 2) := by decide +kernel
theorem dX8_lawStonesBetween_64 : decode cX8_lawStonesBetween 64 = .ok (.iload_n 1, 1) := by decide +kernel
theorem dX8_lawStonesBetween_65 : decode cX8_lawStonesBetween 65 = .ok (.iload 6, 2) := by decide +kernel
theorem dX8_lawStonesBetween_67 : decode cX8_lawStonesBetween 67 = .ok (.imul, 1) := by decide +kernel
theorem dX8_lawStonesBetween_68 : decode cX8_lawStonesBetween 68 = .ok (.if_icmp .le 15, 3) := by decide +kernel
theorem dX8_lawStonesBetween_71 : decode cX8_lawStonesBetween 71 = .ok (.iload 5, 2) := by decide +kernel
theorem dX8_lawStonesBetween_73 : decode cX8_lawStonesBetween 73 = .ok (.iload_n 2, 1) := by decide +kernel
theorem dX8_lawStonesBetween_74 : decode cX8_lawStonesBetween 74 = .ok (.iload 6, 2) := by decide +kernel
theorem dX8_lawStonesBetween_76 : decode cX8_lawStonesBetween 76 = .ok (.imul, 1) := by decide +kernel
theorem dX8_lawStonesBetween_77 : decode cX8_lawStonesBetween 77 = .ok (.if_icmp .gt 6, 3) := by decide +kernel
theorem dX8_lawStonesBetween_80 : decode cX8_lawStonesBetween 80 = .ok (.iinc 3 1, 3) := by decide +kernel
theorem dX8_lawStonesBetween_83 : decode cX8_lawStonesBetween 83 = .ok (.iinc 4 1, 3) := by decide +kernel
theorem dX8_lawStonesBetween_86 : decode cX8_lawStonesBetween 86 = .ok (.goto (-81), 3) := by decide +kernel
theorem dX8_lawStonesBetween_89 : decode cX8_lawStonesBetween 89 = .ok (.iload_n 3, 1) := by decide +kernel
theorem dX8_lawStonesBetween_90 : decode cX8_lawStonesBetween 90 = .ok (.ireturn, 1) := by decide +kernel
theorem dX8_fewestToSend_0 : decode cX8_fewestToSend 0 = .ok (.iconst (-1), 1) := by decide +kernel
theorem dX8_fewestToSend_1 : decode cX8_fewestToSend 1 = .ok (.istore_n 3, 1) := by decide +kernel
theorem dX8_fewestToSend_2 : decode cX8_fewestToSend 2 = .ok (.iconst 0, 1) := by decide +kernel
theorem dX8_fewestToSend_3 : decode cX8_fewestToSend 3 = .ok (.istore 4, 2) := by decide +kernel
theorem dX8_fewestToSend_5 : decode cX8_fewestToSend 5 = .ok (.iload 4, 2) := by decide +kernel
theorem dX8_fewestToSend_7 : decode cX8_fewestToSend 7 = .ok (.iconst 1, 1) := by decide +kernel
theorem dX8_fewestToSend_8 : decode cX8_fewestToSend 8 = .ok (.aload_n 0, 1) := by decide +kernel
theorem dX8_fewestToSend_9 : decode cX8_fewestToSend 9 = .ok (.getfield 32, 3) := by decide +kernel
theorem dX8_fewestToSend_12 : decode cX8_fewestToSend 12 = .ok (.getfield 235, 3) := by decide +kernel
theorem dX8_fewestToSend_15 : decode cX8_fewestToSend 15 = .ok (.ishl, 1) := by decide +kernel
theorem dX8_fewestToSend_16 : decode cX8_fewestToSend 16 = .ok (.if_icmp .ge 85, 3) := by decide +kernel
theorem dX8_fewestToSend_19 : decode cX8_fewestToSend 19 = .ok (.iload 4, 2) := by decide +kernel
theorem dX8_fewestToSend_21 : decode cX8_fewestToSend 21 = .ok (.aload_n 0, 1) := by decide +kernel
theorem dX8_fewestToSend_22 : decode cX8_fewestToSend 22 = .ok (.getfield 32, 3) := by decide +kernel
theorem dX8_fewestToSend_25 : decode cX8_fewestToSend 25 = .ok (.getfield 167, 3) := by decide +kernel
theorem dX8_fewestToSend_28 : decode cX8_fewestToSend 28 = .ok (.iand, 1) := by decide +kernel
theorem dX8_fewestToSend_29 : decode cX8_fewestToSend 29 = .ok (.ifCond .ne 7, 3) := by decide +kernel
theorem dX8_fewestToSend_32 : decode cX8_fewestToSend 32 = .ok (.iconst 1, 1) := by decide +kernel
theorem dX8_fewestToSend_33 : decode cX8_fewestToSend 33 = .ok (.goto 4, 3) := by decide +kernel
theorem dX8_fewestToSend_36 : decode cX8_fewestToSend 36 = .ok (.iconst 0, 1) := by decide +kernel
theorem dX8_fewestToSend_37 : decode cX8_fewestToSend 37 = .ok (.istore 5, 2) := by decide +kernel
theorem dX8_fewestToSend_39 : decode cX8_fewestToSend 39 = .ok (.iload_n 3, 1) := by decide +kernel
theorem dX8_fewestToSend_40 : decode cX8_fewestToSend 40 = .ok (.iconst (-1), 1) := by decide +kernel
theorem dX8_fewestToSend_41 : decode cX8_fewestToSend 41 = .ok (.if_icmp .eq 15, 3) := by decide +kernel
theorem dX8_fewestToSend_44 : decode cX8_fewestToSend 44 = .ok (.iload 4, 2) := by decide +kernel
theorem dX8_fewestToSend_46 : decode cX8_fewestToSend 46 = .ok (.invokestatic 170, 3) := by decide +kernel
theorem dX8_fewestToSend_49 : decode cX8_fewestToSend 49 = .ok (.iload_n 3, 1) := by decide +kernel
theorem dX8_fewestToSend_50 : decode cX8_fewestToSend 50 = .ok (.invokestatic 170, 3) := by decide +kernel
theorem dX8_fewestToSend_53 : decode cX8_fewestToSend 53 = .ok (.if_icmp .ge 7, 3) := by decide +kernel
theorem dX8_fewestToSend_56 : decode cX8_fewestToSend 56 = .ok (.iconst 1, 1) := by decide +kernel
theorem dX8_fewestToSend_57 : decode cX8_fewestToSend 57 = .ok (.goto 4, 3) := by decide +kernel
theorem dX8_fewestToSend_60 : decode cX8_fewestToSend 60 = .ok (.iconst 0, 1) := by decide +kernel
theorem dX8_fewestToSend_61 : decode cX8_fewestToSend 61 = .ok (.istore 6, 2) := by decide +kernel
theorem dX8_fewestToSend_63 : decode cX8_fewestToSend 63 = .ok (.iload 5, 2) := by decide +kernel
theorem dX8_fewestToSend_65 : decode cX8_fewestToSend 65 = .ok (.ifCond .eq 30, 3) := by decide +kernel
theorem dX8_fewestToSend_68 : decode cX8_fewestToSend 68 = .ok (.iload 6, 2) := by decide +kernel
theorem dX8_fewestToSend_70 : decode cX8_fewestToSend 70 = .ok (.ifCond .eq 25, 3) := by decide +kernel
theorem dX8_fewestToSend_73 : decode cX8_fewestToSend 73 = .ok (.aload_n 0, 1) := by decide +kernel
theorem dX8_fewestToSend_74 : decode cX8_fewestToSend 74 = .ok (.iload 4, 2) := by decide +kernel
theorem dX8_fewestToSend_76 : decode cX8_fewestToSend 76 = .ok (.aload_n 0, 1) := by decide +kernel
theorem dX8_fewestToSend_77 : decode cX8_fewestToSend 77 = .ok (.getfield 32, 3) := by decide +kernel
theorem dX8_fewestToSend_80 : decode cX8_fewestToSend 80 = .ok (.getfield 167, 3) := by decide +kernel
theorem dX8_fewestToSend_83 : decode cX8_fewestToSend 83 = .ok (.ior, 1) := by decide +kernel
theorem dX8_fewestToSend_84 : decode cX8_fewestToSend 84 = .ok (.iload_n 1, 1) := by decide +kernel
theorem dX8_fewestToSend_85 : decode cX8_fewestToSend 85 = .ok (.iload_n 2, 1) := by decide +kernel
theorem dX8_fewestToSend_86 : decode cX8_fewestToSend 86 = .ok (.invokevirtual 245, 3) := by decide +kernel
theorem dX8_fewestToSend_89 : decode cX8_fewestToSend 89 = .ok (.ifCond .eq 6, 3) := by decide +kernel
theorem dX8_fewestToSend_92 : decode cX8_fewestToSend 92 = .ok (.iload 4, 2) := by decide +kernel
theorem dX8_fewestToSend_94 : decode cX8_fewestToSend 94 = .ok (.istore_n 3, 1) := by decide +kernel
theorem dX8_fewestToSend_95 : decode cX8_fewestToSend 95 = .ok (.iinc 4 1, 3) := by decide +kernel
theorem dX8_fewestToSend_98 : decode cX8_fewestToSend 98 = .ok (.goto (-93), 3) := by decide +kernel
theorem dX8_fewestToSend_101 : decode cX8_fewestToSend 101 = .ok (.iload_n 3, 1) := by decide +kernel
theorem dX8_fewestToSend_102 : decode cX8_fewestToSend 102 = .ok (.ireturn, 1) := by decide +kernel
theorem dX8_standsAsWished_0 : decode cX8_standsAsWished 0 = .ok (.aload_n 0, 1) := by decide +kernel
theorem dX8_standsAsWished_1 : decode cX8_standsAsWished 1 = .ok (.getfield 58, 3) := by decide +kernel
theorem dX8_standsAsWished_4 : decode cX8_standsAsWished 4 = .ok (.iload_n 1, 1) := by decide +kernel
theorem dX8_standsAsWished_5 : decode cX8_standsAsWished 5 = .ok (.invokevirtual 183, 3) := by decide +kernel
theorem dX8_standsAsWished_8 : decode cX8_standsAsWished 8 = .ok (.istore 4, 2) := by decide +kernel
theorem dX8_standsAsWished_10 : decode cX8_standsAsWished 10 = .ok (.iload 4, 2) := by decide +kernel
theorem dX8_standsAsWished_12 : decode cX8_standsAsWished 12 = .ok (.ifCond .ne 5, 3) := by decide +kernel
theorem dX8_standsAsWished_15 : decode cX8_standsAsWished 15 = .ok (.iconst 0, 1) := by decide +kernel
theorem dX8_standsAsWished_16 : decode cX8_standsAsWished 16 = .ok (.ireturn, 1) := by decide +kernel
theorem dX8_standsAsWished_17 : decode cX8_standsAsWished 17 = .ok (.aload_n 0, 1) := by decide +kernel
theorem dX8_standsAsWished_18 : decode cX8_standsAsWished 18 = .ok (.getfield 58, 3) := by decide +kernel
theorem dX8_standsAsWished_21 : decode cX8_standsAsWished 21 = .ok (.iload_n 1, 1) := by decide +kernel
theorem dX8_standsAsWished_22 : decode cX8_standsAsWished 22 = .ok (.invokevirtual 186, 3) := by decide +kernel
theorem dX8_standsAsWished_25 : decode cX8_standsAsWished 25 = .ok (.istore 5, 2) := by decide +kernel
theorem dX8_standsAsWished_27 : decode cX8_standsAsWished 27 = .ok (.iload_n 3, 1) := by decide +kernel
theorem dX8_standsAsWished_28 : decode cX8_standsAsWished 28 = .ok (.ifCond .eq 20, 3) := by decide +kernel
theorem dX8_standsAsWished_31 : decode cX8_standsAsWished 31 = .ok (.iload 5, 2) := by decide +kernel
theorem dX8_standsAsWished_33 : decode cX8_standsAsWished 33 = .ok (.iload_n 2, 1) := by decide +kernel
theorem dX8_standsAsWished_34 : decode cX8_standsAsWished 34 = .ok (.iload 4, 2) := by decide +kernel
theorem dX8_standsAsWished_36 : decode cX8_standsAsWished 36 = .ok (.imul, 1) := by decide +kernel
theorem dX8_standsAsWished_37 : decode cX8_standsAsWished 37 = .ok (.if_icmp .lt 7, 3) := by decide +kernel
theorem dX8_standsAsWished_40 : decode cX8_standsAsWished 40 = .ok (.iconst 1, 1) := by decide +kernel
theorem dX8_standsAsWished_41 : decode cX8_standsAsWished 41 = .ok (.goto 21, 3) := by decide +kernel
theorem dX8_standsAsWished_44 : decode cX8_standsAsWished 44 = .ok (.iconst 0, 1) := by decide +kernel
theorem dX8_standsAsWished_45 : decode cX8_standsAsWished 45 = .ok (.goto 17, 3) := by decide +kernel
theorem dX8_standsAsWished_48 : decode cX8_standsAsWished 48 = .ok (.iload 5, 2) := by decide +kernel
theorem dX8_standsAsWished_50 : decode cX8_standsAsWished 50 = .ok (.iload_n 2, 1) := by decide +kernel
theorem dX8_standsAsWished_51 : decode cX8_standsAsWished 51 = .ok (.iload 4, 2) := by decide +kernel
theorem dX8_standsAsWished_53 : decode cX8_standsAsWished 53 = .ok (.imul, 1) := by decide +kernel
theorem dX8_standsAsWished_54 : decode cX8_standsAsWished 54 = .ok (.if_icmp .gt 7, 3) := by decide +kernel
theorem dX8_standsAsWished_57 : decode cX8_standsAsWished 57 = .ok (.iconst 1, 1) := by decide +kernel
theorem dX8_standsAsWished_58 : decode cX8_standsAsWished 58 = .ok (.goto 4, 3) := by decide +kernel
theorem dX8_standsAsWished_61 : decode cX8_standsAsWished 61 = .ok (.iconst 0, 1) := by decide +kernel
theorem dX8_standsAsWished_62 : decode cX8_standsAsWished 62 = .ok (.ireturn, 1) := by decide +kernel
theorem dX8_waysNotShortOf_0 : decode cX8_waysNotShortOf 0 = .ok (.iconst 0, 1) := by decide +kernel
theorem dX8_waysNotShortOf_1 : decode cX8_waysNotShortOf 1 = .ok (.istore_n 3, 1) := by decide +kernel
theorem dX8_waysNotShortOf_2 : decode cX8_waysNotShortOf 2 = .ok (.iconst 0, 1) := by decide +kernel
theorem dX8_waysNotShortOf_3 : decode cX8_waysNotShortOf 3 = .ok (.istore 4, 2) := by decide +kernel
theorem dX8_waysNotShortOf_5 : decode cX8_waysNotShortOf 5 = .ok (.iload 4, 2) := by decide +kernel
theorem dX8_waysNotShortOf_7 : decode cX8_waysNotShortOf 7 = .ok (.iconst 1, 1) := by decide +kernel
theorem dX8_waysNotShortOf_8 : decode cX8_waysNotShortOf 8 = .ok (.aload_n 0, 1) := by decide +kernel
theorem dX8_waysNotShortOf_9 : decode cX8_waysNotShortOf 9 = .ok (.getfield 32, 3) := by decide +kernel
theorem dX8_waysNotShortOf_12 : decode cX8_waysNotShortOf 12 = .ok (.getfield 235, 3) := by decide +kernel
theorem dX8_waysNotShortOf_15 : decode cX8_waysNotShortOf 15 = .ok (.ishl, 1) := by decide +kernel
theorem dX8_waysNotShortOf_16 : decode cX8_waysNotShortOf 16 = .ok (.if_icmp .ge 66, 3) := by decide +kernel
theorem dX8_waysNotShortOf_19 : decode cX8_waysNotShortOf 19 = .ok (.aload_n 0, 1) := by decide +kernel
theorem dX8_waysNotShortOf_20 : decode cX8_waysNotShortOf 20 = .ok (.getfield 58, 3) := by decide +kernel
theorem dX8_waysNotShortOf_23 : decode cX8_waysNotShortOf 23 = .ok (.iload 4, 2) := by decide +kernel
theorem dX8_waysNotShortOf_25 : decode cX8_waysNotShortOf 25 = .ok (.invokevirtual 183, 3) := by decide +kernel
theorem dX8_waysNotShortOf_28 : decode cX8_waysNotShortOf 28 = .ok (.ifCond .eq 14, 3) := by decide +kernel
theorem dX8_waysNotShortOf_31 : decode cX8_waysNotShortOf 31 = .ok (.aload_n 0, 1) := by decide +kernel
theorem dX8_waysNotShortOf_32 : decode cX8_waysNotShortOf 32 = .ok (.iload 4, 2) := by decide +kernel
theorem dX8_waysNotShortOf_34 : decode cX8_waysNotShortOf 34 = .ok (.iload_n 1, 1) := by decide +kernel
theorem dX8_waysNotShortOf_35 : decode cX8_waysNotShortOf 35 = .ok (.iconst 1, 1) := by decide +kernel
theorem dX8_waysNotShortOf_36 : decode cX8_waysNotShortOf 36 = .ok (.invokevirtual 245, 3) := by decide +kernel
theorem dX8_waysNotShortOf_39 : decode cX8_waysNotShortOf 39 = .ok (.ifCond .eq 37, 3) := by decide +kernel
theorem dX8_waysNotShortOf_42 : decode cX8_waysNotShortOf 42 = .ok (.iload 4, 2) := by decide +kernel
theorem dX8_waysNotShortOf_44 : decode cX8_waysNotShortOf 44 = .ok (.invokestatic 170, 3) := by decide +kernel
theorem dX8_waysNotShortOf_47 : decode cX8_waysNotShortOf 47 = .ok (.istore 5, 2) := by decide +kernel
theorem dX8_waysNotShortOf_49 : decode cX8_waysNotShortOf 49 = .ok (.iload_n 3, 1) := by decide +kernel
theorem dX8_waysNotShortOf_50 : decode cX8_waysNotShortOf 50 = .ok (.iload_n 2, 1) := by decide +kernel
theorem dX8_waysNotShortOf_51 : decode cX8_waysNotShortOf 51 = .ok (.iload 5, 2) := by decide +kernel
theorem dX8_waysNotShortOf_53 : decode cX8_waysNotShortOf 53 = .ok (.invokestatic 238, 3) := by decide +kernel
theorem dX8_waysNotShortOf_56 : decode cX8_waysNotShortOf 56 = .ok (.bipush 10, 2) := by decide +kernel
theorem dX8_waysNotShortOf_58 : decode cX8_waysNotShortOf 58 = .ok (.iload_n 2, 1) := by decide +kernel
theorem dX8_waysNotShortOf_59 : decode cX8_waysNotShortOf 59 = .ok (.isub, 1) := by decide +kernel
theorem dX8_waysNotShortOf_60 : decode cX8_waysNotShortOf 60 = .ok (.aload_n 0, 1) := by decide +kernel
theorem dX8_waysNotShortOf_61 : decode cX8_waysNotShortOf 61 = .ok (.getfield 32, 3) := by decide +kernel
theorem dX8_waysNotShortOf_64 : decode cX8_waysNotShortOf 64 = .ok (.getfield 235, 3) := by decide +kernel
theorem dX8_waysNotShortOf_67 : decode cX8_waysNotShortOf 67 = .ok (.iload 5, 2) := by decide +kernel
theorem dX8_waysNotShortOf_69 : decode cX8_waysNotShortOf 69 = .ok (.isub, 1) := by decide +kernel
theorem dX8_waysNotShortOf_70 : decode cX8_waysNotShortOf 70 = .ok (.invokestatic 238, 3) := by decide +kernel
theorem dX8_waysNotShortOf_73 : decode cX8_waysNotShortOf 73 = .ok (.imul, 1) := by decide +kernel
theorem dX8_waysNotShortOf_74 : decode cX8_waysNotShortOf 74 = .ok (.iadd, 1) := by decide +kernel
theorem dX8_waysNotShortOf_75 : decode cX8_waysNotShortOf 75 = .ok (.istore_n 3, 1) := by decide +kernel
theorem dX8_waysNotShortOf_76 : decode cX8_waysNotShortOf 76 = .ok (.iinc 4 1, 3) := by decide +kernel
theorem dX8_waysNotShortOf_79 : decode cX8_waysNotShortOf 79 = .ok (.goto (-74), 3) := by decide +kernel
theorem dX8_waysNotShortOf_82 : decode cX8_waysNotShortOf 82 = .ok (.iload_n 3, 1) := by decide +kernel
theorem dX8_waysNotShortOf_83 : decode cX8_waysNotShortOf 83 = .ok (.ireturn, 1) := by decide +kernel
theorem dX8_power_0 : decode cX8_power 0 = .ok (.iconst 1, 1) := by decide +kernel
theorem dX8_power_1 : decode cX8_power 1 = .ok (.istore_n 2, 1) := by decide +kernel
theorem dX8_power_2 : decode cX8_power 2 = .ok (.iconst 0, 1) := by decide +kernel
theorem dX8_power_3 : decode cX8_power 3 = .ok (.istore_n 3, 1) := by decide +kernel
theorem dX8_power_4 : decode cX8_power 4 = .ok (.iload_n 3, 1) := by decide +kernel
theorem dX8_power_5 : decode cX8_power 5 = .ok (.iload_n 1, 1) := by decide +kernel
theorem dX8_power_6 : decode cX8_power 6 = .ok (.if_icmp .ge 13, 3) := by decide +kernel
theorem dX8_power_9 : decode cX8_power 9 = .ok (.iload_n 2, 1) := by decide +kernel
theorem dX8_power_10 : decode cX8_power 10 = .ok (.iload_n 0, 1) := by decide +kernel
theorem dX8_power_11 : decode cX8_power 11 = .ok (.imul, 1) := by decide +kernel
theorem dX8_power_12 : decode cX8_power 12 = .ok (.istore_n 2, 1) := by decide +kernel
theorem dX8_power_13 : decode cX8_power 13 = .ok (.iinc 3 1, 3) := by decide +kernel
theorem dX8_power_16 : decode cX8_power 16 = .ok (.goto (-12), 3) := by decide +kernel
theorem dX8_power_19 : decode cX8_power 19 = .ok (.iload_n 2, 1) := by decide +kernel
theorem dX8_power_20 : decode cX8_power 20 = .ok (.ireturn, 1) := by decide +kernel
theorem dX8_partOf_0 : decode cX8_partOf 0 = .ok (.iload_n 0, 1) := by decide +kernel
theorem dX8_partOf_1 : decode cX8_partOf 1 = .ok (.iload_n 1, 1) := by decide +kernel
theorem dX8_partOf_2 : decode cX8_partOf 2 = .ok (.invokestatic 249, 3) := by decide +kernel
theorem dX8_partOf_5 : decode cX8_partOf 5 = .ok (.istore_n 3, 1) := by decide +kernel
theorem dX8_partOf_6 : decode cX8_partOf 6 = .ok (.iload_n 2, 1) := by decide +kernel
theorem dX8_partOf_7 : decode cX8_partOf 7 = .ok (.ifCond .ne 7, 3) := by decide +kernel
theorem dX8_partOf_10 : decode cX8_partOf 10 = .ok (.iload_n 0, 1) := by decide +kernel
theorem dX8_partOf_11 : decode cX8_partOf 11 = .ok (.goto 4, 3) := by decide +kernel
theorem dX8_partOf_14 : decode cX8_partOf 14 = .ok (.iload_n 1, 1) := by decide +kernel
theorem dX8_partOf_15 : decode cX8_partOf 15 = .ok (.istore 4, 2) := by decide +kernel
theorem dX8_partOf_17 : decode cX8_partOf 17 = .ok (.iload_n 3, 1) := by decide +kernel
theorem dX8_partOf_18 : decode cX8_partOf 18 = .ok (.ifCond .ne 8, 3) := by decide +kernel
theorem dX8_partOf_21 : decode cX8_partOf 21 = .ok (.iload 4, 2) := by decide +kernel
theorem dX8_partOf_23 : decode cX8_partOf 23 = .ok (.goto 7, 3) := by decide +kernel
theorem dX8_partOf_26 : decode cX8_partOf 26 = .ok (.iload 4, 2) := by decide +kernel
theorem dX8_partOf_28 : decode cX8_partOf 28 = .ok (.iload_n 3, 1) := by decide +kernel
theorem dX8_partOf_29 : decode cX8_partOf 29 = .ok (.idiv, 1) := by decide +kernel
theorem dX8_partOf_30 : decode cX8_partOf 30 = .ok (.ireturn, 1) := by decide +kernel
theorem dX8_commonDivisor_0 : decode cX8_commonDivisor 0 = .ok (.iload_n 0, 1) := by decide +kernel
theorem dX8_commonDivisor_1 : decode cX8_commonDivisor 1 = .ok (.istore_n 2, 1) := by decide +kernel
theorem dX8_commonDivisor_2 : decode cX8_commonDivisor 2 = .ok (.iload_n 1, 1) := by decide +kernel
theorem dX8_commonDivisor_3 : decode cX8_commonDivisor 3 = .ok (.istore_n 3, 1) := by decide +kernel
theorem dX8_commonDivisor_4 : decode cX8_commonDivisor 4 = .ok (.iconst 0, 1) := by decide +kernel
theorem dX8_commonDivisor_5 : decode cX8_commonDivisor 5 = .ok (.istore 4, 2) := by decide +kernel
theorem dX8_commonDivisor_7 : decode cX8_commonDivisor 7 = .ok (.iload 4, 2) := by decide +kernel
theorem dX8_commonDivisor_9 : decode cX8_commonDivisor 9 = .ok (.bipush 64, 2) := by decide +kernel
theorem dX8_commonDivisor_11 : decode cX8_commonDivisor 11 = .ok (.if_icmp .ge 23, 3) := by decide +kernel
theorem dX8_commonDivisor_14 : decode cX8_commonDivisor 14 = .ok (.iload_n 3, 1) := by decide +kernel
theorem dX8_commonDivisor_15 : decode cX8_commonDivisor 15 = .ok (.ifCond .eq 19, 3) := by decide +kernel
theorem dX8_commonDivisor_18 : decode cX8_commonDivisor 18 = .ok (.iload_n 2, 1) := by decide +kernel
theorem dX8_commonDivisor_19 : decode cX8_commonDivisor 19 = .ok (.iload_n 3, 1) := by decide +kernel
theorem dX8_commonDivisor_20 : decode cX8_commonDivisor 20 = .ok (.irem, 1) := by decide +kernel
theorem dX8_commonDivisor_21 : decode cX8_commonDivisor 21 = .ok (.istore 5, 2) := by decide +kernel
theorem dX8_commonDivisor_23 : decode cX8_commonDivisor 23 = .ok (.iload_n 3, 1) := by decide +kernel
theorem dX8_commonDivisor_24 : decode cX8_commonDivisor 24 = .ok (.istore_n 2, 1) := by decide +kernel
theorem dX8_commonDivisor_25 : decode cX8_commonDivisor 25 = .ok (.iload 5, 2) := by decide +kernel
theorem dX8_commonDivisor_27 : decode cX8_commonDivisor 27 = .ok (.istore_n 3, 1) := by decide +kernel
theorem dX8_commonDivisor_28 : decode cX8_commonDivisor 28 = .ok (.iinc 4 1, 3) := by decide +kernel
theorem dX8_commonDivisor_31 : decode cX8_commonDivisor 31 = .ok (.goto (-24), 3) := by decide +kernel
theorem dX8_commonDivisor_34 : decode cX8_commonDivisor 34 = .ok (.iload_n 2, 1) := by decide +kernel
theorem dX8_commonDivisor_35 : decode cX8_commonDivisor 35 = .ok (.ireturn, 1) := by decide +kernel
theorem dJ6_bitCount_0f7a4_0 : decode cJ6_bitCount_0f7a4 0 = .ok (.iload_n 0, 1) := by decide +kernel
theorem dJ6_bitCount_0f7a4_1 : decode cJ6_bitCount_0f7a4 1 = .ok (.iload_n 0, 1) := by decide +kernel
theorem dJ6_bitCount_0f7a4_2 : decode cJ6_bitCount_0f7a4 2 = .ok (.iconst 1, 1) := by decide +kernel
theorem dJ6_bitCount_0f7a4_3 : decode cJ6_bitCount_0f7a4 3 = .ok (.iushr, 1) := by decide +kernel
theorem dJ6_bitCount_0f7a4_4 : decode cJ6_bitCount_0f7a4 4 = .ok (.ldc_w 265, 3) := by decide +kernel
theorem dJ6_bitCount_0f7a4_7 : decode cJ6_bitCount_0f7a4 7 = .ok (.iand, 1) := by decide +kernel
theorem dJ6_bitCount_0f7a4_8 : decode cJ6_bitCount_0f7a4 8 = .ok (.isub, 1) := by decide +kernel
theorem dJ6_bitCount_0f7a4_9 : decode cJ6_bitCount_0f7a4 9 = .ok (.istore_n 0, 1) := by decide +kernel
theorem dJ6_bitCount_0f7a4_10 : decode cJ6_bitCount_0f7a4 10 = .ok (.iload_n 0, 1) := by decide +kernel
theorem dJ6_bitCount_0f7a4_11 : decode cJ6_bitCount_0f7a4 11 = .ok (.ldc_w 266, 3) := by decide +kernel
theorem dJ6_bitCount_0f7a4_14 : decode cJ6_bitCount_0f7a4 14 = .ok (.iand, 1) := by decide +kernel
theorem dJ6_bitCount_0f7a4_15 : decode cJ6_bitCount_0f7a4 15 = .ok (.iload_n 0, 1) := by decide +kernel
theorem dJ6_bitCount_0f7a4_16 : decode cJ6_bitCount_0f7a4 16 = .ok (.iconst 2, 1) := by decide +kernel
theorem dJ6_bitCount_0f7a4_17 : decode cJ6_bitCount_0f7a4 17 = .ok (.iushr, 1) := by decide +kernel
theorem dJ6_bitCount_0f7a4_18 : decode cJ6_bitCount_0f7a4 18 = .ok (.ldc_w 266, 3) := by decide +kernel
theorem dJ6_bitCount_0f7a4_21 : decode cJ6_bitCount_0f7a4 21 = .ok (.iand, 1) := by decide +kernel
theorem dJ6_bitCount_0f7a4_22 : decode cJ6_bitCount_0f7a4 22 = .ok (.iadd, 1) := by decide +kernel
theorem dJ6_bitCount_0f7a4_23 : decode cJ6_bitCount_0f7a4 23 = .ok (.istore_n 0, 1) := by decide +kernel
theorem dJ6_bitCount_0f7a4_24 : decode cJ6_bitCount_0f7a4 24 = .ok (.iload_n 0, 1) := by decide +kernel
theorem dJ6_bitCount_0f7a4_25 : decode cJ6_bitCount_0f7a4 25 = .ok (.iload_n 0, 1) := by decide +kernel
theorem dJ6_bitCount_0f7a4_26 : decode cJ6_bitCount_0f7a4 26 = .ok (.iconst 4, 1) := by decide +kernel
theorem dJ6_bitCount_0f7a4_27 : decode cJ6_bitCount_0f7a4 27 = .ok (.iushr, 1) := by decide +kernel
theorem dJ6_bitCount_0f7a4_28 : decode cJ6_bitCount_0f7a4 28 = .ok (.iadd, 1) := by decide +kernel
theorem dJ6_bitCount_0f7a4_29 : decode cJ6_bitCount_0f7a4 29 = .ok (.ldc_w 267, 3) := by decide +kernel
theorem dJ6_bitCount_0f7a4_32 : decode cJ6_bitCount_0f7a4 32 = .ok (.iand, 1) := by decide +kernel
theorem dJ6_bitCount_0f7a4_33 : decode cJ6_bitCount_0f7a4 33 = .ok (.istore_n 0, 1) := by decide +kernel
theorem dJ6_bitCount_0f7a4_34 : decode cJ6_bitCount_0f7a4 34 = .ok (.iload_n 0, 1) := by decide +kernel
theorem dJ6_bitCount_0f7a4_35 : decode cJ6_bitCount_0f7a4 35 = .ok (.iload_n 0, 1) := by decide +kernel
theorem dJ6_bitCount_0f7a4_36 : decode cJ6_bitCount_0f7a4 36 = .ok (.bipush 8, 2) := by decide +kernel
theorem dJ6_bitCount_0f7a4_38 : decode cJ6_bitCount_0f7a4 38 = .ok (.iushr, 1) := by decide +kernel
theorem dJ6_bitCount_0f7a4_39 : decode cJ6_bitCount_0f7a4 39 = .ok (.iadd, 1) := by decide +kernel
theorem dJ6_bitCount_0f7a4_40 : decode cJ6_bitCount_0f7a4 40 = .ok (.istore_n 0, 1) := by decide +kernel
theorem dJ6_bitCount_0f7a4_41 : decode cJ6_bitCount_0f7a4 41 = .ok (.iload_n 0, 1) := by decide +kernel
theorem dJ6_bitCount_0f7a4_42 : decode cJ6_bitCount_0f7a4 42 = .ok (.iload_n 0, 1) := by decide +kernel
theorem dJ6_bitCount_0f7a4_43 : decode cJ6_bitCount_0f7a4 43 = .ok (.bipush 16, 2) := by decide +kernel
theorem dJ6_bitCount_0f7a4_45 : decode cJ6_bitCount_0f7a4 45 = .ok (.iushr, 1) := by decide +kernel
theorem dJ6_bitCount_0f7a4_46 : decode cJ6_bitCount_0f7a4 46 = .ok (.iadd, 1) := by decide +kernel
theorem dJ6_bitCount_0f7a4_47 : decode cJ6_bitCount_0f7a4 47 = .ok (.istore_n 0, 1) := by decide +kernel
theorem dJ6_bitCount_0f7a4_48 : decode cJ6_bitCount_0f7a4 48 = .ok (.iload_n 0, 1) := by decide +kernel
theorem dJ6_bitCount_0f7a4_49 : decode cJ6_bitCount_0f7a4 49 = .ok (.bipush 63, 2) := by decide +kernel
theorem dJ6_bitCount_0f7a4_51 : decode cJ6_bitCount_0f7a4 51 = .ok (.iand, 1) := by decide +kernel
theorem dJ6_bitCount_0f7a4_52 : decode cJ6_bitCount_0f7a4 52 = .ok (.ireturn, 1) := by decide +kernel
theorem dJ9_max_7cf53_0 : decode cJ9_max_7cf53 0 = .ok (.iload_n 0, 1) := by decide +kernel
theorem dJ9_max_7cf53_1 : decode cJ9_max_7cf53 1 = .ok (.iload_n 1, 1) := by decide +kernel
theorem dJ9_max_7cf53_2 : decode cJ9_max_7cf53 2 = .ok (.if_icmp .lt 7, 3) := by decide +kernel
theorem dJ9_max_7cf53_5 : decode cJ9_max_7cf53 5 = .ok (.iload_n 0, 1) := by decide +kernel
theorem dJ9_max_7cf53_6 : decode cJ9_max_7cf53 6 = .ok (.goto 4, 3) := by decide +kernel
theorem dJ9_max_7cf53_9 : decode cJ9_max_7cf53 9 = .ok (.iload_n 1, 1) := by decide +kernel
theorem dJ9_max_7cf53_10 : decode cJ9_max_7cf53 10 = .ok (.ireturn, 1) := by decide +kernel
theorem dJ9_min_7cf53_0 : decode cJ9_min_7cf53 0 = .ok (.iload_n 0, 1) := by decide +kernel
theorem dJ9_min_7cf53_1 : decode cJ9_min_7cf53 1 = .ok (.iload_n 1, 1) := by decide +kernel
theorem dJ9_min_7cf53_2 : decode cJ9_min_7cf53 2 = .ok (.if_icmp .gt 7, 3) := by decide +kernel
theorem dJ9_min_7cf53_5 : decode cJ9_min_7cf53 5 = .ok (.iload_n 0, 1) := by decide +kernel
theorem dJ9_min_7cf53_6 : decode cJ9_min_7cf53 6 = .ok (.goto 4, 3) := by decide +kernel
theorem dJ9_min_7cf53_9 : decode cJ9_min_7cf53 9 = .ok (.iload_n 1, 1) := by decide +kernel
theorem dJ9_min_7cf53_10 : decode cJ9_min_7cf53 10 = .ok (.ireturn, 1) := by decide +kernel
theorem dJ0_length_8abf5_0 : decode cJ0_length_8abf5 0 = .ok (.aload_n 0, 1) := by decide +kernel
theorem dJ0_length_8abf5_1 : decode cJ0_length_8abf5 1 = .ok (.getfield 9, 3) := by decide +kernel
theorem dJ0_length_8abf5_4 : decode cJ0_length_8abf5 4 = .ok (.arraylength, 1) := by decide +kernel
theorem dJ0_length_8abf5_5 : decode cJ0_length_8abf5 5 = .ok (.aload_n 0, 1) := by decide +kernel
theorem dJ0_length_8abf5_6 : decode cJ0_length_8abf5 6 = .ok (.invokevirtual 335, 3) := by decide +kernel
theorem dJ0_length_8abf5_9 : decode cJ0_length_8abf5 9 = .ok (.ishr, 1) := by decide +kernel
theorem dJ0_length_8abf5_10 : decode cJ0_length_8abf5 10 = .ok (.ireturn, 1) := by decide +kernel
theorem dJ0_charAt_5068e_0 : decode cJ0_charAt_5068e 0 = .ok (.aload_n 0, 1) := by decide +kernel
theorem dJ0_charAt_5068e_1 : decode cJ0_charAt_5068e 1 = .ok (.invokevirtual 492, 3) := by decide +kernel
theorem dJ0_charAt_5068e_4 : decode cJ0_charAt_5068e 4 = .ok (.ifCond .eq 12, 3) := by decide +kernel
theorem dJ0_charAt_5068e_7 : decode cJ0_charAt_5068e 7 = .ok (.aload_n 0, 1) := by decide +kernel
theorem dJ0_charAt_5068e_8 : decode cJ0_charAt_5068e 8 = .ok (.getfield 9, 3) := by decide +kernel
theorem dJ0_charAt_5068e_11 : decode cJ0_charAt_5068e 11 = .ok (.iload_n 1, 1) := by decide +kernel
theorem dJ0_charAt_5068e_12 : decode cJ0_charAt_5068e 12 = .ok (.invokestatic 495, 3) := by decide +kernel
theorem dJ0_charAt_5068e_15 : decode cJ0_charAt_5068e 15 = .ok (.ireturn, 1) := by decide +kernel
theorem dJ0_charAt_5068e_16 : decode cJ0_charAt_5068e 16 = .ok (.aload_n 0, 1) := by decide +kernel
theorem dJ0_charAt_5068e_17 : decode cJ0_charAt_5068e 17 = .ok (.getfield 9, 3) := by decide +kernel
theorem dJ0_charAt_5068e_20 : decode cJ0_charAt_5068e 20 = .ok (.iload_n 1, 1) := by decide +kernel
theorem dJ0_charAt_5068e_21 : decode cJ0_charAt_5068e 21 = .ok (.invokestatic 498, 3) := by decide +kernel
theorem dJ0_charAt_5068e_24 : decode cJ0_charAt_5068e 24 = .ok (.ireturn, 1) := by decide +kernel
theorem dJ0_coder_7d493_0 : decode cJ0_coder_7d493 0 = .ok (.getstatic 38, 3) := by decide +kernel
theorem dJ0_coder_7d493_3 : decode cJ0_coder_7d493 3 = .ok (.ifCond .eq 10, 3) := by decide +kernel
theorem dJ0_coder_7d493_6 : decode cJ0_coder_7d493 6 = .ok (.aload_n 0, 1) := by decide +kernel
theorem dJ0_coder_7d493_7 : decode cJ0_coder_7d493 7 = .ok (.getfield 15, 3) := by decide +kernel
theorem dJ0_coder_7d493_10 : decode cJ0_coder_7d493 10 = .ok (.goto 4, 3) := by decide +kernel
theorem dJ0_coder_7d493_13 : decode cJ0_coder_7d493 13 = .ok (.iconst 1, 1) := by decide +kernel
theorem dJ0_coder_7d493_14 : decode cJ0_coder_7d493 14 = .ok (.ireturn, 1) := by decide +kernel
theorem dJ0_isLatin1_aae02_0 : decode cJ0_isLatin1_aae02 0 = .ok (.getstatic 38, 3) := by decide +kernel
theorem dJ0_isLatin1_aae02_3 : decode cJ0_isLatin1_aae02 3 = .ok (.ifCond .eq 14, 3) := by decide +kernel
theorem dJ0_isLatin1_aae02_6 : decode cJ0_isLatin1_aae02 6 = .ok (.aload_n 0, 1) := by decide +kernel
theorem dJ0_isLatin1_aae02_7 : decode cJ0_isLatin1_aae02 7 = .ok (.getfield 15, 3) := by decide +kernel
theorem dJ0_isLatin1_aae02_10 : decode cJ0_isLatin1_aae02 10 = .ok (.ifCond .ne 7, 3) := by decide +kernel
theorem dJ0_isLatin1_aae02_13 : decode cJ0_isLatin1_aae02 13 = .ok (.iconst 1, 1) := by decide +kernel
theorem dJ0_isLatin1_aae02_14 : decode cJ0_isLatin1_aae02 14 = .ok (.goto 4, 3) := by decide +kernel
theorem dJ0_isLatin1_aae02_17 : decode cJ0_isLatin1_aae02 17 = .ok (.iconst 0, 1) := by decide +kernel
theorem dJ0_isLatin1_aae02_18 : decode cJ0_isLatin1_aae02 18 = .ok (.ireturn, 1) := by decide +kernel
theorem dJ0_checkIndex_df160_0 : decode cJ0_checkIndex_df160 0 = .ok (.iload_n 0, 1) := by decide +kernel
theorem dJ0_checkIndex_df160_1 : decode cJ0_checkIndex_df160 1 = .ok (.iload_n 1, 1) := by decide +kernel
theorem dJ0_checkIndex_df160_2 : decode cJ0_checkIndex_df160 2 = .ok (.getstatic 1053, 3) := by decide +kernel
theorem dJ0_checkIndex_df160_5 : decode cJ0_checkIndex_df160 5 = .ok (.invokestatic 1059, 3) := by decide +kernel
theorem dJ0_checkIndex_df160_8 : decode cJ0_checkIndex_df160 8 = .ok (.pop, 1) := by decide +kernel
theorem dJ0_checkIndex_df160_9 : decode cJ0_checkIndex_df160 9 = .ok (.return_, 1) := by decide +kernel
theorem dJ1_charAt_3b067_0 : decode cJ1_charAt_3b067 0 = .ok (.iload_n 1, 1) := by decide +kernel
theorem dJ1_charAt_3b067_1 : decode cJ1_charAt_3b067 1 = .ok (.aload_n 0, 1) := by decide +kernel
theorem dJ1_charAt_3b067_2 : decode cJ1_charAt_3b067 2 = .ok (.arraylength, 1) := by decide +kernel
theorem dJ1_charAt_3b067_3 : decode cJ1_charAt_3b067 3 = .ok (.invokestatic 9, 3) := by decide +kernel
theorem dJ1_charAt_3b067_6 : decode cJ1_charAt_3b067 6 = .ok (.aload_n 0, 1) := by decide +kernel
theorem dJ1_charAt_3b067_7 : decode cJ1_charAt_3b067 7 = .ok (.iload_n 1, 1) := by decide +kernel
theorem dJ1_charAt_3b067_8 : decode cJ1_charAt_3b067 8 = .ok (.baload, 1) := by decide +kernel
theorem dJ1_charAt_3b067_9 : decode cJ1_charAt_3b067 9 = .ok (.sipush 255, 3) := by decide +kernel
theorem dJ1_charAt_3b067_12 : decode cJ1_charAt_3b067 12 = .ok (.iand, 1) := by decide +kernel
theorem dJ1_charAt_3b067_13 : decode cJ1_charAt_3b067 13 = .ok (.i2c, 1) := by decide +kernel
theorem dJ1_charAt_3b067_14 : decode cJ1_charAt_3b067 14 = .ok (.ireturn, 1) := by decide +kernel
theorem dJ2_getChar_3b067_0 : decode cJ2_getChar_3b067 0 = .ok (.getstatic 44, 3) := by decide +kernel
theorem dJ2_getChar_3b067_3 : decode cJ2_getChar_3b067 3 = .ok (.ifCond .ne 25, 3) := by decide +kernel
theorem dJ2_getChar_3b067_6 : decode cJ2_getChar_3b067 6 = .ok (.iload_n 1, 1) := by decide +kernel
theorem dJ2_getChar_3b067_7 : decode cJ2_getChar_3b067 7 = .ok (.ifCond .lt 11, 3) := by decide +kernel
theorem dJ2_getChar_3b067_10 : decode cJ2_getChar_3b067 10 = .ok (.iload_n 1, 1) := by decide +kernel
theorem dJ2_getChar_3b067_11 : decode cJ2_getChar_3b067 11 = .ok (.aload_n 0, 1) := by decide +kernel
theorem dJ2_getChar_3b067_12 : decode cJ2_getChar_3b067 12 = .ok (.invokestatic 48, 3) := by decide +kernel
theorem dJ2_getChar_3b067_15 : decode cJ2_getChar_3b067 15 = .ok (.if_icmp .lt 13, 3) := by decide +kernel
theorem dJ2_getChar_3b067_18 : decode cJ2_getChar_3b067 18 = .ok (.new 52, 3) := by decide +kernel
theorem dJ2_getChar_3b067_21 : decode cJ2_getChar_3b067 21 = .ok (.dup, 1) := by decide +kernel
theorem dJ2_getChar_3b067_22 : decode cJ2_getChar_3b067 22 = .ok (.ldc 54, 2) := by decide +kernel
theorem dJ2_getChar_3b067_24 : decode cJ2_getChar_3b067 24 = .ok (.invokespecial 56, 3) := by decide +kernel
theorem dJ2_getChar_3b067_27 : decode cJ2_getChar_3b067 27 = .ok (.athrow, 1) := by decide +kernel
theorem dJ2_getChar_3b067_28 : decode cJ2_getChar_3b067 28 = .ok (.iload_n 1, 1) := by decide +kernel
theorem dJ2_getChar_3b067_29 : decode cJ2_getChar_3b067 29 = .ok (.iconst 1, 1) := by decide +kernel
theorem dJ2_getChar_3b067_30 : decode cJ2_getChar_3b067 30 = .ok (.ishl, 1) := by decide +kernel
theorem dJ2_getChar_3b067_31 : decode cJ2_getChar_3b067 31 = .ok (.istore_n 1, 1) := by decide +kernel
theorem dJ2_getChar_3b067_32 : decode cJ2_getChar_3b067 32 = .ok (.aload_n 0, 1) := by decide +kernel
theorem dJ2_getChar_3b067_33 : decode cJ2_getChar_3b067 33 = .ok (.iload_n 1, 1) := by decide +kernel
theorem dJ2_getChar_3b067_34 : decode cJ2_getChar_3b067 34 = .ok (.iinc 1 1, 3) := by decide +kernel
theorem dJ2_getChar_3b067_37 : decode cJ2_getChar_3b067 37 = .ok (.baload, 1) := by decide +kernel
theorem dJ2_getChar_3b067_38 : decode cJ2_getChar_3b067 38 = .ok (.sipush 255, 3) := by decide +kernel
theorem dJ2_getChar_3b067_41 : decode cJ2_getChar_3b067 41 = .ok (.iand, 1) := by decide +kernel
theorem dJ2_getChar_3b067_42 : decode cJ2_getChar_3b067 42 = .ok (.getstatic 59, 3) := by decide +kernel
theorem dJ2_getChar_3b067_45 : decode cJ2_getChar_3b067 45 = .ok (.ishl, 1) := by decide +kernel
theorem dJ2_getChar_3b067_46 : decode cJ2_getChar_3b067 46 = .ok (.aload_n 0, 1) := by decide +kernel
theorem dJ2_getChar_3b067_47 : decode cJ2_getChar_3b067 47 = .ok (.iload_n 1, 1) := by decide +kernel
theorem dJ2_getChar_3b067_48 : decode cJ2_getChar_3b067 48 = .ok (.baload, 1) := by decide +kernel
theorem dJ2_getChar_3b067_49 : decode cJ2_getChar_3b067 49 = .ok (.sipush 255, 3) := by decide +kernel
theorem dJ2_getChar_3b067_52 : decode cJ2_getChar_3b067 52 = .ok (.iand, 1) := by decide +kernel
theorem dJ2_getChar_3b067_53 : decode cJ2_getChar_3b067 53 = .ok (.getstatic 63, 3) := by decide +kernel
theorem dJ2_getChar_3b067_56 : decode cJ2_getChar_3b067 56 = .ok (.ishl, 1) := by decide +kernel
theorem dJ2_getChar_3b067_57 : decode cJ2_getChar_3b067 57 = .ok (.ior, 1) := by decide +kernel
theorem dJ2_getChar_3b067_58 : decode cJ2_getChar_3b067 58 = .ok (.i2c, 1) := by decide +kernel
theorem dJ2_getChar_3b067_59 : decode cJ2_getChar_3b067 59 = .ok (.ireturn, 1) := by decide +kernel
theorem dJ2_length_9d52b_0 : decode cJ2_length_9d52b 0 = .ok (.aload_n 0, 1) := by decide +kernel
theorem dJ2_length_9d52b_1 : decode cJ2_length_9d52b 1 = .ok (.arraylength, 1) := by decide +kernel
theorem dJ2_length_9d52b_2 : decode cJ2_length_9d52b 2 = .ok (.iconst 1, 1) := by decide +kernel
theorem dJ2_length_9d52b_3 : decode cJ2_length_9d52b 3 = .ok (.ishr, 1) := by decide +kernel
theorem dJ2_length_9d52b_4 : decode cJ2_length_9d52b 4 = .ok (.ireturn, 1) := by decide +kernel
theorem dJ2_charAt_3b067_0 : decode cJ2_charAt_3b067 0 = .ok (.iload_n 1, 1) := by decide +kernel
theorem dJ2_charAt_3b067_1 : decode cJ2_charAt_3b067 1 = .ok (.aload_n 0, 1) := by decide +kernel
theorem dJ2_charAt_3b067_2 : decode cJ2_charAt_3b067 2 = .ok (.invokestatic 67, 3) := by decide +kernel
theorem dJ2_charAt_3b067_5 : decode cJ2_charAt_3b067 5 = .ok (.aload_n 0, 1) := by decide +kernel
theorem dJ2_charAt_3b067_6 : decode cJ2_charAt_3b067 6 = .ok (.iload_n 1, 1) := by decide +kernel
theorem dJ2_charAt_3b067_7 : decode cJ2_charAt_3b067 7 = .ok (.invokestatic 71, 3) := by decide +kernel
theorem dJ2_charAt_3b067_10 : decode cJ2_charAt_3b067 10 = .ok (.ireturn, 1) := by decide +kernel
theorem dJ2_checkIndex_2214a_0 : decode cJ2_checkIndex_2214a 0 = .ok (.iload_n 0, 1) := by decide +kernel
theorem dJ2_checkIndex_2214a_1 : decode cJ2_checkIndex_2214a 1 = .ok (.aload_n 1, 1) := by decide +kernel
theorem dJ2_checkIndex_2214a_2 : decode cJ2_checkIndex_2214a 2 = .ok (.invokestatic 48, 3) := by decide +kernel
theorem dJ2_checkIndex_2214a_5 : decode cJ2_checkIndex_2214a 5 = .ok (.invokestatic 414, 3) := by decide +kernel
theorem dJ2_checkIndex_2214a_8 : decode cJ2_checkIndex_2214a 8 = .ok (.return_, 1) := by decide +kernel
theorem dJ3_checkIndex_8e157_0 : decode cJ3_checkIndex_8e157 0 = .ok (.iload_n 0, 1) := by decide +kernel
theorem dJ3_checkIndex_8e157_1 : decode cJ3_checkIndex_8e157 1 = .ok (.ifCond .lt 8, 3) := by decide +kernel
theorem dJ3_checkIndex_8e157_4 : decode cJ3_checkIndex_8e157 4 = .ok (.iload_n 0, 1) := by decide +kernel
theorem dJ3_checkIndex_8e157_5 : decode cJ3_checkIndex_8e157 5 = .ok (.iload_n 1, 1) := by decide +kernel
theorem dJ3_checkIndex_8e157_6 : decode cJ3_checkIndex_8e157 6 = .ok (.if_icmp .lt 10, 3) := by decide +kernel
theorem dJ3_checkIndex_8e157_9 : decode cJ3_checkIndex_8e157 9 = .ok (.aload_n 2, 1) := by decide +kernel
theorem dJ3_checkIndex_8e157_10 : decode cJ3_checkIndex_8e157 10 = .ok (.iload_n 0, 1) := by decide +kernel
theorem dJ3_checkIndex_8e157_11 : decode cJ3_checkIndex_8e157 11 = .ok (.iload_n 1, 1) := by decide +kernel
theorem dJ3_checkIndex_8e157_12 : decode cJ3_checkIndex_8e157 12 = .ok (.invokestatic 95, 3) := by decide +kernel
theorem dJ3_checkIndex_8e157_15 : decode cJ3_checkIndex_8e157 15 = .ok (.athrow, 1) := by decide +kernel
theorem dJ3_checkIndex_8e157_16 : decode cJ3_checkIndex_8e157 16 = .ok (.iload_n 0, 1) := by decide +kernel
theorem dJ3_checkIndex_8e157_17 : decode cJ3_checkIndex_8e157 17 = .ok (.ireturn, 1) := by decide +kernel
