theorem dX9_init_0 : decode cX9_init 0 = .ok (.aload_n 0, 1) := by decide +kernel
theorem dX9_init_1 : decode cX9_init 1 = .ok (.invokespecial 1, 3) := by decide +kernel
theorem dX9_init_4 : decode cX9_init 4 = .ok (.aload_n 0, 1) := by decide +kernel
theorem dX9_init_5 : decode cX9_init 5 = .ok (.bipush 36, 2) := by decide +kernel
theorem dX9_init_7 : decode cX9_init 7 = .ok (.newarray .int, 2) := by decide +kernel
theorem dX9_init_9 : decode cX9_init 9 = .ok (.putfield 7, 3) := by decide +kernel
theorem dX9_init_12 : decode cX9_init 12 = .ok (.aload_n 0, 1) := by decide +kernel
theorem dX9_init_13 : decode cX9_init 13 = .ok (.bipush 36, 2) := by decide +kernel
theorem dX9_init_15 : decode cX9_init 15 = .ok (.newarray .int, 2) := by decide +kernel
theorem dX9_init_17 : decode cX9_init 17 = .ok (.putfield 13, 3) := by decide +kernel
theorem dX9_init_20 : decode cX9_init 20 = .ok (.aload_n 0, 1) := by decide +kernel
theorem dX9_init_21 : decode cX9_init 21 = .ok (.bipush 36, 2) := by decide +kernel
theorem dX9_init_23 : decode cX9_init 23 = .ok (.newarray .int, 2) := by decide +kernel
theorem dX9_init_25 : decode cX9_init 25 = .ok (.putfield 16, 3) := by decide +kernel
theorem dX9_init_28 : decode cX9_init 28 = .ok (.aload_n 0, 1) := by decide +kernel
theorem dX9_init_29 : decode cX9_init 29 = .ok (.sipush 288, 3) := by decide +kernel
theorem dX9_init_32 : decode cX9_init 32 = .ok (.newarray .int, 2) := by decide +kernel
theorem dX9_init_34 : decode cX9_init 34 = .ok (.putfield 19, 3) := by decide +kernel
theorem dX9_init_37 : decode cX9_init 37 = .ok (.aload_n 0, 1) := by decide +kernel
theorem dX9_init_38 : decode cX9_init 38 = .ok (.bipush 72, 2) := by decide +kernel
theorem dX9_init_40 : decode cX9_init 40 = .ok (.newarray .int, 2) := by decide +kernel
theorem dX9_init_42 : decode cX9_init 42 = .ok (.putfield 22, 3) := by decide +kernel
theorem dX9_init_45 : decode cX9_init 45 = .ok (.aload_n 0, 1) := by decide +kernel
theorem dX9_init_46 : decode cX9_init 46 = .ok (.iconst 2, 1) := by decide +kernel
theorem dX9_init_47 : decode cX9_init 47 = .ok (.newarray .boolean, 2) := by decide +kernel
theorem dX9_init_49 : decode cX9_init 49 = .ok (.putfield 25, 3) := by decide +kernel
theorem dX9_init_52 : decode cX9_init 52 = .ok (.aload_n 0, 1) := by decide +kernel
theorem dX9_init_53 : decode cX9_init 53 = .ok (.bipush 18, 2) := by decide +kernel
theorem dX9_init_55 : decode cX9_init 55 = .ok (.newarray .int, 2) := by decide +kernel
theorem dX9_init_57 : decode cX9_init 57 = .ok (.putfield 29, 3) := by decide +kernel
theorem dX9_init_60 : decode cX9_init 60 = .ok (.aload_n 0, 1) := by decide +kernel
theorem dX9_init_61 : decode cX9_init 61 = .ok (.sipush 160, 3) := by decide +kernel
theorem dX9_init_64 : decode cX9_init 64 = .ok (.newarray .int, 2) := by decide +kernel
theorem dX9_init_66 : decode cX9_init 66 = .ok (.putfield 32, 3) := by decide +kernel
theorem dX9_init_69 : decode cX9_init 69 = .ok (.aload_n 0, 1) := by decide +kernel
theorem dX9_init_70 : decode cX9_init 70 = .ok (.sipush 128, 3) := by decide +kernel
theorem dX9_init_73 : decode cX9_init 73 = .ok (.newarray .int, 2) := by decide +kernel
theorem dX9_init_75 : decode cX9_init 75 = .ok (.putfield 35, 3) := by decide +kernel
theorem dX9_init_78 : decode cX9_init 78 = .ok (.aload_n 0, 1) := by decide +kernel
theorem dX9_init_79 : decode cX9_init 79 = .ok (.sipush 128, 3) := by decide +kernel
theorem dX9_init_82 : decode cX9_init 82 = .ok (.newarray .int, 2) := by decide +kernel
theorem dX9_init_84 : decode cX9_init 84 = .ok (.putfield 38, 3) := by decide +kernel
theorem dX9_init_87 : decode cX9_init 87 = .ok (.aload_n 0, 1) := by decide +kernel
theorem dX9_init_88 : decode cX9_init 88 = .ok (.sipush 128, 3) := by decide +kernel
theorem dX9_init_91 : decode cX9_init 91 = .ok (.newarray .int, 2) := by decide +kernel
theorem dX9_init_93 : decode cX9_init 93 = .ok (.putfield 41, 3) := by decide +kernel
theorem dX9_init_96 : decode cX9_init 96 = .ok (.aload_n 0, 1) := by decide +kernel
theorem dX9_init_97 : decode cX9_init 97 = .ok (.getfield 7, 3) := by decide +kernel
theorem dX9_init_100 : decode cX9_init 100 = .ok (.bipush 12, 2) := by decide +kernel
theorem dX9_init_102 : decode cX9_init 102 = .ok (.invokestatic 44, 3) := by decide +kernel
theorem dX9_init_105 : decode cX9_init 105 = .ok (.aload_n 0, 1) := by decide +kernel
theorem dX9_init_106 : decode cX9_init 106 = .ok (.getfield 13, 3) := by decide +kernel
theorem dX9_init_109 : decode cX9_init 109 = .ok (.bipush 12, 2) := by decide +kernel
theorem dX9_init_111 : decode cX9_init 111 = .ok (.invokestatic 44, 3) := by decide +kernel
theorem dX9_init_114 : decode cX9_init 114 = .ok (.return_, 1) := by decide +kernel
theorem dX9_layRoad_0 : decode cX9_layRoad 0 = .ok (.iconst 0, 1) := by decide +kernel
theorem dX9_layRoad_1 : decode cX9_layRoad 1 = .ok (.istore_n 2, 1) := by decide +kernel
theorem dX9_layRoad_2 : decode cX9_layRoad 2 = .ok (.iload_n 2, 1) := by decide +kernel
theorem dX9_layRoad_3 : decode cX9_layRoad 3 = .ok (.bipush 36, 2) := by decide +kernel
theorem dX9_layRoad_5 : decode cX9_layRoad 5 = .ok (.if_icmp .ge 13, 3) := by decide +kernel
theorem dX9_layRoad_8 : decode cX9_layRoad 8 = .ok (.aload_n 0, 1) := by decide +kernel
theorem dX9_layRoad_9 : decode cX9_layRoad 9 = .ok (.iload_n 2, 1) := by decide +kernel
theorem dX9_layRoad_10 : decode cX9_layRoad 10 = .ok (.iconst 0, 1) := by decide +kernel
theorem dX9_layRoad_11 : decode cX9_layRoad 11 = .ok (.iastore, 1) := by decide +kernel
theorem dX9_layRoad_12 : decode cX9_layRoad 12 = .ok (.iinc 2 1, 3) := by decide +kernel
theorem dX9_layRoad_15 : decode cX9_layRoad 15 = .ok (.goto (-13), 3) := by decide +kernel
theorem dX9_layRoad_18 : decode cX9_layRoad 18 = .ok (.aload_n 0, 1) := by decide +kernel
theorem dX9_layRoad_19 : decode cX9_layRoad 19 = .ok (.iconst 0, 1) := by decide +kernel
theorem dX9_layRoad_20 : decode cX9_layRoad 20 = .ok (.iload_n 1, 1) := by decide +kernel
theorem dX9_layRoad_21 : decode cX9_layRoad 21 = .ok (.iastore, 1) := by decide +kernel
theorem dX9_layRoad_22 : decode cX9_layRoad 22 = .ok (.aload_n 0, 1) := by decide +kernel
theorem dX9_layRoad_23 : decode cX9_layRoad 23 = .ok (.iconst 1, 1) := by decide +kernel
theorem dX9_layRoad_24 : decode cX9_layRoad 24 = .ok (.bipush 10, 2) := by decide +kernel
theorem dX9_layRoad_26 : decode cX9_layRoad 26 = .ok (.iastore, 1) := by decide +kernel
theorem dX9_layRoad_27 : decode cX9_layRoad 27 = .ok (.iconst 0, 1) := by decide +kernel
theorem dX9_layRoad_28 : decode cX9_layRoad 28 = .ok (.istore_n 2, 1) := by decide +kernel
theorem dX9_layRoad_29 : decode cX9_layRoad 29 = .ok (.iload_n 2, 1) := by decide +kernel
theorem dX9_layRoad_30 : decode cX9_layRoad 30 = .ok (.iload_n 1, 1) := by decide +kernel
theorem dX9_layRoad_31 : decode cX9_layRoad 31 = .ok (.if_icmp .ge 15, 3) := by decide +kernel
theorem dX9_layRoad_34 : decode cX9_layRoad 34 = .ok (.aload_n 0, 1) := by decide +kernel
theorem dX9_layRoad_35 : decode cX9_layRoad 35 = .ok (.iconst 4, 1) := by decide +kernel
theorem dX9_layRoad_36 : decode cX9_layRoad 36 = .ok (.iload_n 2, 1) := by decide +kernel
theorem dX9_layRoad_37 : decode cX9_layRoad 37 = .ok (.iadd, 1) := by decide +kernel
theorem dX9_layRoad_38 : decode cX9_layRoad 38 = .ok (.iconst 3, 1) := by decide +kernel
theorem dX9_layRoad_39 : decode cX9_layRoad 39 = .ok (.iastore, 1) := by decide +kernel
theorem dX9_layRoad_40 : decode cX9_layRoad 40 = .ok (.iinc 2 1, 3) := by decide +kernel
theorem dX9_layRoad_43 : decode cX9_layRoad 43 = .ok (.goto (-14), 3) := by decide +kernel
theorem dX9_layRoad_46 : decode cX9_layRoad 46 = .ok (.return_, 1) := by decide +kernel
theorem dX9_in_0 : decode cX9_in 0 = .ok (.lload_n 0, 1) := by decide +kernel
theorem dX9_in_1 : decode cX9_in 1 = .ok (.lload_n 2, 1) := by decide +kernel
theorem dX9_in_2 : decode cX9_in 2 = .ok (.lcmp, 1) := by decide +kernel
theorem dX9_in_3 : decode cX9_in 3 = .ok (.ifCond .lt 14, 3) := by decide +kernel
theorem dX9_in_6 : decode cX9_in 6 = .ok (.lload_n 0, 1) := by decide +kernel
theorem dX9_in_7 : decode cX9_in 7 = .ok (.lload 4, 2) := by decide +kernel
theorem dX9_in_9 : decode cX9_in 9 = .ok (.lcmp, 1) := by decide +kernel
theorem dX9_in_10 : decode cX9_in 10 = .ok (.ifCond .gt 7, 3) := by decide +kernel
theorem dX9_in_13 : decode cX9_in 13 = .ok (.iconst 1, 1) := by decide +kernel
theorem dX9_in_14 : decode cX9_in 14 = .ok (.goto 4, 3) := by decide +kernel
theorem dX9_in_17 : decode cX9_in 17 = .ok (.iconst 0, 1) := by decide +kernel
theorem dX9_in_18 : decode cX9_in 18 = .ok (.ireturn, 1) := by decide +kernel
theorem dX9_bits_0 : decode cX9_bits 0 = .ok (.iconst 0, 1) := by decide +kernel
theorem dX9_bits_1 : decode cX9_bits 1 = .ok (.istore_n 1, 1) := by decide +kernel
theorem dX9_bits_2 : decode cX9_bits 2 = .ok (.iconst 0, 1) := by decide +kernel
theorem dX9_bits_3 : decode cX9_bits 3 = .ok (.istore_n 2, 1) := by decide +kernel
theorem dX9_bits_4 : decode cX9_bits 4 = .ok (.iload_n 2, 1) := by decide +kernel
theorem dX9_bits_5 : decode cX9_bits 5 = .ok (.bipush 6, 2) := by decide +kernel
theorem dX9_bits_7 : decode cX9_bits 7 = .ok (.if_icmp .ge 17, 3) := by decide +kernel
theorem dX9_bits_10 : decode cX9_bits 10 = .ok (.iload_n 1, 1) := by decide +kernel
theorem dX9_bits_11 : decode cX9_bits 11 = .ok (.iload_n 0, 1) := by decide +kernel
theorem dX9_bits_12 : decode cX9_bits 12 = .ok (.iload_n 2, 1) := by decide +kernel
theorem dX9_bits_13 : decode cX9_bits 13 = .ok (.ishr, 1) := by decide +kernel
theorem dX9_bits_14 : decode cX9_bits 14 = .ok (.iconst 1, 1) := by decide +kernel
theorem dX9_bits_15 : decode cX9_bits 15 = .ok (.iand, 1) := by decide +kernel
theorem dX9_bits_16 : decode cX9_bits 16 = .ok (.iadd, 1) := by decide +kernel
theorem dX9_bits_17 : decode cX9_bits 17 = .ok (.istore_n 1, 1) := by decide +kernel
theorem dX9_bits_18 : decode cX9_bits 18 = .ok (.iinc 2 1, 3) := by decide +kernel
theorem dX9_bits_21 : decode cX9_bits 21 = .ok (.goto (-17), 3) := by decide +kernel
theorem dX9_bits_24 : decode cX9_bits 24 = .ok (.iload_n 1, 1) := by decide +kernel
theorem dX9_bits_25 : decode cX9_bits 25 = .ok (.ireturn, 1) := by decide +kernel
theorem dX9_isWalker_0 : decode cX9_isWalker 0 = .ok (.iload_n 1, 1) := by decide +kernel
theorem dX9_isWalker_1 : decode cX9_isWalker 1 = .ok (.i2l, 1) := by decide +kernel
theorem dX9_isWalker_2 : decode cX9_isWalker 2 = .ok (.lconst 0, 1) := by decide +kernel
theorem dX9_isWalker_3 : decode cX9_isWalker 3 = .ok (.aload_n 0, 1) := by decide +kernel
theorem dX9_isWalker_4 : decode cX9_isWalker 4 = .ok (.getfield 7, 3) := by decide +kernel
theorem dX9_isWalker_7 : decode cX9_isWalker 7 = .ok (.iconst 2, 1) := by decide +kernel
theorem dX9_isWalker_8 : decode cX9_isWalker 8 = .ok (.iaload, 1) := by decide +kernel
theorem dX9_isWalker_9 : decode cX9_isWalker 9 = .ok (.iconst 1, 1) := by decide +kernel
theorem dX9_isWalker_10 : decode cX9_isWalker 10 = .ok (.isub, 1) := by decide +kernel
theorem dX9_isWalker_11 : decode cX9_isWalker 11 = .ok (.i2l, 1) := by decide +kernel
theorem dX9_isWalker_12 : decode cX9_isWalker 12 = .ok (.invokestatic 52, 3) := by decide +kernel
theorem dX9_isWalker_15 : decode cX9_isWalker 15 = .ok (.ireturn, 1) := by decide +kernel
theorem dX9_write_0 : decode cX9_write 0 = .ok (.aload_n 0, 1) := by decide +kernel
theorem dX9_write_1 : decode cX9_write 1 = .ok (.iconst 0, 1) := by decide +kernel
theorem dX9_write_2 : decode cX9_write 2 = .ok (.putfield 48, 3) := by decide +kernel
theorem dX9_write_5 : decode cX9_write 5 = .ok (.iload_n 1, 1) := by decide +kernel
theorem dX9_write_6 : decode cX9_write 6 = .ok (.i2l, 1) := by decide +kernel
theorem dX9_write_7 : decode cX9_write 7 = .ok (.lconst 0, 1) := by decide +kernel
theorem dX9_write_8 : decode cX9_write 8 = .ok (.ldc2_w 56, 3) := by decide +kernel
theorem dX9_write_11 : decode cX9_write 11 = .ok (.invokestatic 52, 3) := by decide +kernel
theorem dX9_write_14 : decode cX9_write 14 = .ok (.ifCond .ne 6, 3) := by decide +kernel
theorem dX9_write_17 : decode cX9_write 17 = .ok (.bipush (-3), 2) := by decide +kernel
theorem dX9_write_19 : decode cX9_write 19 = .ok (.ireturn, 1) := by decide +kernel
theorem dX9_write_20 : decode cX9_write 20 = .ok (.aload_n 0, 1) := by decide +kernel
theorem dX9_write_21 : decode cX9_write 21 = .ok (.getfield 58, 3) := by decide +kernel
theorem dX9_write_24 : decode cX9_write 24 = .ok (.sipush 160, 3) := by decide +kernel
theorem dX9_write_27 : decode cX9_write 27 = .ok (.if_icmp .ne 6, 3) := by decide +kernel
theorem dX9_write_30 : decode cX9_write 30 = .ok (.bipush (-5), 2) := by decide +kernel
theorem dX9_write_32 : decode cX9_write 32 = .ok (.ireturn, 1) := by decide +kernel
theorem dX9_write_33 : decode cX9_write 33 = .ok (.aload_n 0, 1) := by decide +kernel
theorem dX9_write_34 : decode cX9_write 34 = .ok (.getfield 32, 3) := by decide +kernel
theorem dX9_write_37 : decode cX9_write 37 = .ok (.aload_n 0, 1) := by decide +kernel
theorem dX9_write_38 : decode cX9_write 38 = .ok (.getfield 58, 3) := by decide +kernel
theorem dX9_write_41 : decode cX9_write 41 = .ok (.iload_n 1, 1) := by decide +kernel
theorem dX9_write_42 : decode cX9_write 42 = .ok (.iastore, 1) := by decide +kernel
theorem dX9_write_43 : decode cX9_write 43 = .ok (.aload_n 0, 1) := by decide +kernel
theorem dX9_write_44 : decode cX9_write 44 = .ok (.dup, 1) := by decide +kernel
theorem dX9_write_45 : decode cX9_write 45 = .ok (.getfield 58, 3) := by decide +kernel
theorem dX9_write_48 : decode cX9_write 48 = .ok (.iconst 1, 1) := by decide +kernel
theorem dX9_write_49 : decode cX9_write 49 = .ok (.iadd, 1) := by decide +kernel
theorem dX9_write_50 : decode cX9_write 50 = .ok (.putfield 58, 3) := by decide +kernel
theorem dX9_write_53 : decode cX9_write 53 = .ok (.aload_n 0, 1) := by decide +kernel
theorem dX9_write_54 : decode cX9_write 54 = .ok (.getfield 58, 3) := by decide +kernel
theorem dX9_write_57 : decode cX9_write 57 = .ok (.ireturn, 1) := by decide +kernel
theorem dX9_erase_0 : decode cX9_erase 0 = .ok (.aload_n 0, 1) := by decide +kernel
theorem dX9_erase_1 : decode cX9_erase 1 = .ok (.iconst 0, 1) := by decide +kernel
theorem dX9_erase_2 : decode cX9_erase 2 = .ok (.putfield 48, 3) := by decide +kernel
theorem dX9_erase_5 : decode cX9_erase 5 = .ok (.aload_n 0, 1) := by decide +kernel
theorem dX9_erase_6 : decode cX9_erase 6 = .ok (.getfield 58, 3) := by decide +kernel
theorem dX9_erase_9 : decode cX9_erase 9 = .ok (.istore_n 1, 1) := by decide +kernel
theorem dX9_erase_10 : decode cX9_erase 10 = .ok (.aload_n 0, 1) := by decide +kernel
theorem dX9_erase_11 : decode cX9_erase 11 = .ok (.iconst 0, 1) := by decide +kernel
theorem dX9_erase_12 : decode cX9_erase 12 = .ok (.putfield 58, 3) := by decide +kernel
theorem dX9_erase_15 : decode cX9_erase 15 = .ok (.iload_n 1, 1) := by decide +kernel
theorem dX9_erase_16 : decode cX9_erase 16 = .ok (.ireturn, 1) := by decide +kernel
theorem dX9_isSmall_0 : decode cX9_isSmall 0 = .ok (.iload_n 0, 1) := by decide +kernel
theorem dX9_isSmall_1 : decode cX9_isSmall 1 = .ok (.i2l, 1) := by decide +kernel
theorem dX9_isSmall_2 : decode cX9_isSmall 2 = .ok (.ldc2_w 61, 3) := by decide +kernel
theorem dX9_isSmall_5 : decode cX9_isSmall 5 = .ok (.ldc2_w 63, 3) := by decide +kernel
theorem dX9_isSmall_8 : decode cX9_isSmall 8 = .ok (.invokestatic 52, 3) := by decide +kernel
theorem dX9_isSmall_11 : decode cX9_isSmall 11 = .ok (.ireturn, 1) := by decide +kernel
theorem dX9_isDigit_0 : decode cX9_isDigit 0 = .ok (.iload_n 0, 1) := by decide +kernel
theorem dX9_isDigit_1 : decode cX9_isDigit 1 = .ok (.i2l, 1) := by decide +kernel
theorem dX9_isDigit_2 : decode cX9_isDigit 2 = .ok (.ldc2_w 65, 3) := by decide +kernel
theorem dX9_isDigit_5 : decode cX9_isDigit 5 = .ok (.ldc2_w 67, 3) := by decide +kernel
theorem dX9_isDigit_8 : decode cX9_isDigit 8 = .ok (.invokestatic 52, 3) := by decide +kernel
theorem dX9_isDigit_11 : decode cX9_isDigit 11 = .ok (.ireturn, 1) := by decide +kernel
theorem dX9_next_0 : decode cX9_next 0 = .ok (.aload_n 0, 1) := by decide +kernel
theorem dX9_next_1 : decode cX9_next 1 = .ok (.getfield 69, 3) := by decide +kernel
theorem dX9_next_4 : decode cX9_next 4 = .ok (.aload_n 0, 1) := by decide +kernel
theorem dX9_next_5 : decode cX9_next 5 = .ok (.getfield 58, 3) := by decide +kernel
theorem dX9_next_8 : decode cX9_next 8 = .ok (.if_icmp .ge 30, 3) := by decide +kernel
theorem dX9_next_11 : decode cX9_next 11 = .ok (.aload_n 0, 1) := by decide +kernel
theorem dX9_next_12 : decode cX9_next 12 = .ok (.getfield 32, 3) := by decide +kernel
theorem dX9_next_15 : decode cX9_next 15 = .ok (.aload_n 0, 1) := by decide +kernel
theorem dX9_next_16 : decode cX9_next 16 = .ok (.getfield 69, 3) := by decide +kernel
theorem dX9_next_19 : decode cX9_next 19 = .ok (.iaload, 1) := by decide +kernel
theorem dX9_next_20 : decode cX9_next 20 = .ok (.bipush 32, 2) := by decide +kernel
theorem dX9_next_22 : decode cX9_next 22 = .ok (.if_icmp .ne 16, 3) := by decide +kernel
theorem dX9_next_25 : decode cX9_next 25 = .ok (.aload_n 0, 1) := by decide +kernel
theorem dX9_next_26 : decode cX9_next 26 = .ok (.dup, 1) := by decide +kernel
theorem dX9_next_27 : decode cX9_next 27 = .ok (.getfield 69, 3) := by decide +kernel
theorem dX9_next_30 : decode cX9_next 30 = .ok (.iconst 1, 1) := by decide +kernel
theorem dX9_next_31 : decode cX9_next 31 = .ok (.iadd, 1) := by decide +kernel
theorem dX9_next_32 : decode cX9_next 32 = .ok (.putfield 69, 3) := by decide +kernel
theorem dX9_next_35 : decode cX9_next 35 = .ok (.goto (-35), 3) := by decide +kernel
theorem dX9_next_38 : decode cX9_next 38 = .ok (.aload_n 0, 1) := by decide +kernel
theorem dX9_next_39 : decode cX9_next 39 = .ok (.aload_n 0, 1) := by decide +kernel
theorem dX9_next_40 : decode cX9_next 40 = .ok (.getfield 69, 3) := by decide +kernel
theorem dX9_next_43 : decode cX9_next 43 = .ok (.putfield 72, 3) := by decide +kernel
theorem dX9_next_46 : decode cX9_next 46 = .ok (.aload_n 0, 1) := by decide +kernel
theorem dX9_next_47 : decode cX9_next 47 = .ok (.lconst 0, 1) := by decide +kernel
theorem dX9_next_48 : decode cX9_next 48 = .ok (.putfield 75, 3) := by decide +kernel
theorem dX9_next_51 : decode cX9_next 51 = .ok (.aload_n 0, 1) := by decide +kernel
theorem dX9_next_52 : decode cX9_next 52 = .ok (.getfield 69, 3) := by decide +kernel
theorem dX9_next_55 : decode cX9_next 55 = .ok (.aload_n 0, 1) := by decide +kernel
theorem dX9_next_56 : decode cX9_next 56 = .ok (.getfield 58, 3) := by decide +kernel
theorem dX9_next_59 : decode cX9_next 59 = .ok (.if_icmp .ne 11, 3) := by decide +kernel
theorem dX9_next_62 : decode cX9_next 62 = .ok (.aload_n 0, 1) := by decide +kernel
theorem dX9_next_63 : decode cX9_next 63 = .ok (.iconst 0, 1) := by decide +kernel
theorem dX9_next_64 : decode cX9_next 64 = .ok (.putfield 79, 3) := by decide +kernel
theorem dX9_next_67 : decode cX9_next 67 = .ok (.goto 239, 3) := by decide +kernel
theorem dX9_next_70 : decode cX9_next 70 = .ok (.aload_n 0, 1) := by decide +kernel
theorem dX9_next_71 : decode cX9_next 71 = .ok (.getfield 32, 3) := by decide +kernel
theorem dX9_next_74 : decode cX9_next 74 = .ok (.aload_n 0, 1) := by decide +kernel
theorem dX9_next_75 : decode cX9_next 75 = .ok (.getfield 69, 3) := by decide +kernel
theorem dX9_next_78 : decode cX9_next 78 = .ok (.iaload, 1) := by decide +kernel
theorem dX9_next_79 : decode cX9_next 79 = .ok (.invokestatic 82, 3) := by decide +kernel
theorem dX9_next_82 : decode cX9_next 82 = .ok (.ifCond .eq 91, 3) := by decide +kernel
theorem dX9_next_85 : decode cX9_next 85 = .ok (.aload_n 0, 1) := by decide +kernel
theorem dX9_next_86 : decode cX9_next 86 = .ok (.iconst 1, 1) := by decide +kernel
theorem dX9_next_87 : decode cX9_next 87 = .ok (.putfield 79, 3) := by decide +kernel
theorem dX9_next_90 : decode cX9_next 90 = .ok (.aload_n 0, 1) := by decide +kernel
theorem dX9_next_91 : decode cX9_next 91 = .ok (.getfield 69, 3) := by decide +kernel
theorem dX9_next_94 : decode cX9_next 94 = .ok (.aload_n 0, 1) := by decide +kernel
theorem dX9_next_95 : decode cX9_next 95 = .ok (.getfield 58, 3) := by decide +kernel
theorem dX9_next_98 : decode cX9_next 98 = .ok (.if_icmp .ge 208, 3) := by decide +kernel
theorem dX9_next_101 : decode cX9_next 101 = .ok (.aload_n 0, 1) := by decide +kernel
theorem dX9_next_102 : decode cX9_next 102 = .ok (.getfield 32, 3) := by decide +kernel
theorem dX9_next_105 : decode cX9_next 105 = .ok (.aload_n 0, 1) := by decide +kernel
theorem dX9_next_106 : decode cX9_next 106 = .ok (.getfield 69, 3) := by decide +kernel
theorem dX9_next_109 : decode cX9_next 109 = .ok (.iaload, 1) := by decide +kernel
theorem dX9_next_110 : decode cX9_next 110 = .ok (.invokestatic 82, 3) := by decide +kernel
theorem dX9_next_113 : decode cX9_next 113 = .ok (.ifCond .eq 193, 3) := by decide +kernel
theorem dX9_next_116 : decode cX9_next 116 = .ok (.aload_n 0, 1) := by decide +kernel
theorem dX9_next_117 : decode cX9_next 117 = .ok (.aload_n 0, 1) := by decide +kernel
theorem dX9_next_118 : decode cX9_next 118 = .ok (.getfield 69, 3) := by decide +kernel
theorem dX9_next_121 : decode cX9_next 121 = .ok (.aload_n 0, 1) := by decide +kernel
theorem dX9_next_122 : decode cX9_next 122 = .ok (.getfield 72, 3) := by decide +kernel
theorem dX9_next_125 : decode cX9_next 125 = .ok (.isub, 1) := by decide +kernel
theorem dX9_next_126 : decode cX9_next 126 = .ok (.bipush 8, 2) := by decide +kernel
theorem dX9_next_128 : decode cX9_next 128 = .ok (.if_icmp .ge 28, 3) := by decide +kernel
theorem dX9_next_131 : decode cX9_next 131 = .ok (.ldc2_w 86, 3) := by decide +kernel
theorem dX9_next_134 : decode cX9_next 134 = .ok (.aload_n 0, 1) := by decide +kernel
theorem dX9_next_135 : decode cX9_next 135 = .ok (.getfield 75, 3) := by decide +kernel
theorem dX9_next_138 : decode cX9_next 138 = .ok (.lmul, 1) := by decide +kernel
theorem dX9_next_139 : decode cX9_next 139 = .ok (.aload_n 0, 1) := by decide +kernel
theorem dX9_next_140 : decode cX9_next 140 = .ok (.getfield 32, 3) := by decide +kernel
theorem dX9_next_143 : decode cX9_next 143 = .ok (.aload_n 0, 1) := by decide +kernel
theorem dX9_next_144 : decode cX9_next 144 = .ok (.getfield 69, 3) := by decide +kernel
theorem dX9_next_147 : decode cX9_next 147 = .ok (.iaload, 1) := by decide +kernel
theorem dX9_next_148 : decode cX9_next 148 = .ok (.bipush 96, 2) := by decide +kernel
theorem dX9_next_150 : decode cX9_next 150 = .ok (.isub, 1) := by decide +kernel
theorem dX9_next_151 : decode cX9_next 151 = .ok (.i2l, 1) := by decide +kernel
theorem dX9_next_152 : decode cX9_next 152 = .ok (.ladd, 1) := by decide +kernel
theorem dX9_next_153 : decode cX9_next 153 = .ok (.goto 4, 3) := by decide +kernel
theorem dX9_next_156 : decode cX9_next 156 = .ok (.lconst 1, 1) := by decide +kernel
theorem dX9_next_157 : decode cX9_next 157 = .ok (.putfield 75, 3) := by decide +kernel
theorem dX9_next_160 : decode cX9_next 160 = .ok (.aload_n 0, 1) := by decide +kernel
theorem dX9_next_161 : decode cX9_next 161 = .ok (.dup, 1) := by decide +kernel
theorem dX9_next_162 : decode cX9_next 162 = .ok (.getfield 69, 3) := by decide +kernel
theorem dX9_next_165 : decode cX9_next 165 = .ok (.iconst 1, 1) := by decide +kernel
theorem dX9_next_166 : decode cX9_next 166 = .ok (.iadd, 1) := by decide +kernel
theorem dX9_next_167 : decode cX9_next 167 = .ok (.putfield 69, 3) := by decide +kernel
theorem dX9_next_170 : decode cX9_next 170 = .ok (.goto (-80), 3) := by decide +kernel
theorem dX9_next_173 : decode cX9_next 173 = .ok (.aload_n 0, 1) := by decide +kernel
theorem dX9_next_174 : decode cX9_next 174 = .ok (.getfield 32, 3) := by decide +kernel
theorem dX9_next_177 : decode cX9_next 177 = .ok (.aload_n 0, 1) := by decide +kernel
theorem dX9_next_178 : decode cX9_next 178 = .ok (.getfield 69, 3) := by decide +kernel
theorem dX9_next_181 : decode cX9_next 181 = .ok (.iaload, 1) := by decide +kernel
theorem dX9_next_182 : decode cX9_next 182 = .ok (.invokestatic 88, 3) := by decide +kernel
theorem dX9_next_185 : decode cX9_next 185 = .ok (.ifCond .eq 92, 3) := by decide +kernel
theorem dX9_next_188 : decode cX9_next 188 = .ok (.aload_n 0, 1) := by decide +kernel
theorem dX9_next_189 : decode cX9_next 189 = .ok (.iconst 2, 1) := by decide +kernel
theorem dX9_next_190 : decode cX9_next 190 = .ok (.putfield 79, 3) := by decide +kernel
theorem dX9_next_193 : decode cX9_next 193 = .ok (.aload_n 0, 1) := by decide +kernel
theorem dX9_next_194 : decode cX9_next 194 = .ok (.getfield 69, 3) := by decide +kernel
theorem dX9_next_197 : decode cX9_next 197 = .ok (.aload_n 0, 1) := by decide +kernel
theorem dX9_next_198 : decode cX9_next 198 = .ok (.getfield 58, 3) := by decide +kernel
theorem dX9_next_201 : decode cX9_next 201 = .ok (.if_icmp .ge 105, 3) := by decide +kernel
theorem dX9_next_204 : decode cX9_next 204 = .ok (.aload_n 0, 1) := by decide +kernel
theorem dX9_next_205 : decode cX9_next 205 = .ok (.getfield 32, 3) := by decide +kernel
theorem dX9_next_208 : decode cX9_next 208 = .ok (.aload_n 0, 1) := by decide +kernel
theorem dX9_next_209 : decode cX9_next 209 = .ok (.getfield 69, 3) := by decide +kernel
theorem dX9_next_212 : decode cX9_next 212 = .ok (.iaload, 1) := by decide +kernel
theorem dX9_next_213 : decode cX9_next 213 = .ok (.invokestatic 88, 3) := by decide +kernel
theorem dX9_next_216 : decode cX9_next 216 = .ok (.ifCond .eq 90, 3) := by decide +kernel
theorem dX9_next_219 : decode cX9_next 219 = .ok (.aload_n 0, 1) := by decide +kernel
theorem dX9_next_220 : decode cX9_next 220 = .ok (.aload_n 0, 1) := by decide +kernel
theorem dX9_next_221 : decode cX9_next 221 = .ok (.getfield 69, 3) := by decide +kernel
theorem dX9_next_224 : decode cX9_next 224 = .ok (.aload_n 0, 1) := by decide +kernel
theorem dX9_next_225 : decode cX9_next 225 = .ok (.getfield 72, 3) := by decide +kernel
theorem dX9_next_228 : decode cX9_next 228 = .ok (.isub, 1) := by decide +kernel
theorem dX9_next_229 : decode cX9_next 229 = .ok (.iconst 2, 1) := by decide +kernel
theorem dX9_next_230 : decode cX9_next 230 = .ok (.if_icmp .ge 28, 3) := by decide +kernel
theorem dX9_next_233 : decode cX9_next 233 = .ok (.ldc2_w 91, 3) := by decide +kernel
theorem dX9_next_236 : decode cX9_next 236 = .ok (.aload_n 0, 1) := by decide +kernel
theorem dX9_next_237 : decode cX9_next 237 = .ok (.getfield 75, 3) := by decide +kernel
theorem dX9_next_240 : decode cX9_next 240 = .ok (.lmul, 1) := by decide +kernel
theorem dX9_next_241 : decode cX9_next 241 = .ok (.aload_n 0, 1) := by decide +kernel
theorem dX9_next_242 : decode cX9_next 242 = .ok (.getfield 32, 3) := by decide +kernel
theorem dX9_next_245 : decode cX9_next 245 = .ok (.aload_n 0, 1) := by decide +kernel
theorem dX9_next_246 : decode cX9_next 246 = .ok (.getfield 69, 3) := by decide +kernel
theorem dX9_next_249 : decode cX9_next 249 = .ok (.iaload, 1) := by decide +kernel
theorem dX9_next_250 : decode cX9_next 250 = .ok (.bipush 48, 2) := by decide +kernel
theorem dX9_next_252 : decode cX9_next 252 = .ok (.isub, 1) := by decide +kernel
theorem dX9_next_253 : decode cX9_next 253 = .ok (.i2l, 1) := by decide +kernel
theorem dX9_next_254 : decode cX9_next 254 = .ok (.ladd, 1) := by decide +kernel
theorem dX9_next_255 : decode cX9_next 255 = .ok (.goto 6, 3) := by decide +kernel
theorem dX9_next_258 : decode cX9_next 258 = .ok (.ldc2_w 93, 3) := by decide +kernel
theorem dX9_next_261 : decode cX9_next 261 = .ok (.putfield 75, 3) := by decide +kernel
theorem dX9_next_264 : decode cX9_next 264 = .ok (.aload_n 0, 1) := by decide +kernel
theorem dX9_next_265 : decode cX9_next 265 = .ok (.dup, 1) := by decide +kernel
theorem dX9_next_266 : decode cX9_next 266 = .ok (.getfield 69, 3) := by decide +kernel
theorem dX9_next_269 : decode cX9_next 269 = .ok (.iconst 1, 1) := by decide +kernel
theorem dX9_next_270 : decode cX9_next 270 = .ok (.iadd, 1) := by decide +kernel
theorem dX9_next_271 : decode cX9_next 271 = .ok (.putfield 69, 3) := by decide +kernel
theorem dX9_next_274 : decode cX9_next 274 = .ok (.goto (-81), 3) := by decide +kernel
theorem dX9_next_277 : decode cX9_next 277 = .ok (.aload_n 0, 1) := by decide +kernel
theorem dX9_next_278 : decode cX9_next 278 = .ok (.iconst 3, 1) := by decide +kernel
theorem dX9_next_279 : decode cX9_next 279 = .ok (.putfield 79, 3) := by decide +kernel
theorem dX9_next_282 : decode cX9_next 282 = .ok (.aload_n 0, 1) := by decide +kernel
theorem dX9_next_283 : decode cX9_next 283 = .ok (.aload_n 0, 1) := by decide +kernel
theorem dX9_next_284 : decode cX9_next 284 = .ok (.getfield 32, 3) := by decide +kernel
theorem dX9_next_287 : decode cX9_next 287 = .ok (.aload_n 0, 1) := by decide +kernel
theorem dX9_next_288 : decode cX9_next 288 = .ok (.getfield 69, 3) := by decide +kernel
theorem dX9_next_291 : decode cX9_next 291 = .ok (.iaload, 1) := by decide +kernel
theorem dX9_next_292 : decode cX9_next 292 = .ok (.i2l, 1) := by decide +kernel
theorem dX9_next_293 : decode cX9_next 293 = .ok (.putfield 75, 3) := by decide +kernel
theorem dX9_next_296 : decode cX9_next 296 = .ok (.aload_n 0, 1) := by decide +kernel
theorem dX9_next_297 : decode cX9_next 297 = .ok (.dup, 1) := by decide +kernel
theorem dX9_next_298 : decode cX9_next 298 = .ok (.getfield 69, 3) := by decide +kernel
theorem dX9_next_301 : decode cX9_next 301 = .ok (.iconst 1, 1) := by decide +kernel
theorem dX9_next_302 : decode cX9_next 302 = .ok (.iadd, 1) := by decide +kernel
theorem dX9_next_303 : decode cX9_next 303 = .ok (.putfield 69, 3) := by decide +kernel
theorem dX9_next_306 : decode cX9_next 306 = .ok (.return_, 1) := by decide +kernel
theorem dX9_bad_0 : decode cX9_bad 0 = .ok (.aload_n 0, 1) := by decide +kernel
theorem dX9_bad_1 : decode cX9_bad 1 = .ok (.aload_n 0, 1) := by decide +kernel
theorem dX9_bad_2 : decode cX9_bad 2 = .ok (.getfield 95, 3) := by decide +kernel
theorem dX9_bad_5 : decode cX9_bad 5 = .ok (.ifCond .eq 10, 3) := by decide +kernel
theorem dX9_bad_8 : decode cX9_bad 8 = .ok (.aload_n 0, 1) := by decide +kernel
theorem dX9_bad_9 : decode cX9_bad 9 = .ok (.getfield 99, 3) := by decide +kernel
theorem dX9_bad_12 : decode cX9_bad 12 = .ok (.goto 7, 3) := by decide +kernel
theorem dX9_bad_15 : decode cX9_bad 15 = .ok (.aload_n 0, 1) := by decide +kernel
theorem dX9_bad_16 : decode cX9_bad 16 = .ok (.getfield 72, 3) := by decide +kernel
theorem dX9_bad_19 : decode cX9_bad 19 = .ok (.putfield 99, 3) := by decide +kernel
theorem dX9_bad_22 : decode cX9_bad 22 = .ok (.aload_n 0, 1) := by decide +kernel
theorem dX9_bad_23 : decode cX9_bad 23 = .ok (.iconst 1, 1) := by decide +kernel
theorem dX9_bad_24 : decode cX9_bad 24 = .ok (.putfield 95, 3) := by decide +kernel
theorem dX9_bad_27 : decode cX9_bad 27 = .ok (.return_, 1) := by decide +kernel
theorem dX9_number_0 : decode cX9_number 0 = .ok (.aload_n 0, 1) := by decide +kernel
theorem dX9_number_1 : decode cX9_number 1 = .ok (.getfield 79, 3) := by decide +kernel
theorem dX9_number_4 : decode cX9_number 4 = .ok (.iconst 2, 1) := by decide +kernel
theorem dX9_number_5 : decode cX9_number 5 = .ok (.if_icmp .ne 17, 3) := by decide +kernel
theorem dX9_number_8 : decode cX9_number 8 = .ok (.aload_n 0, 1) := by decide +kernel
theorem dX9_number_9 : decode cX9_number 9 = .ok (.getfield 75, 3) := by decide +kernel
theorem dX9_number_12 : decode cX9_number 12 = .ok (.iload_n 1, 1) := by decide +kernel
theorem dX9_number_13 : decode cX9_number 13 = .ok (.i2l, 1) := by decide +kernel
theorem dX9_number_14 : decode cX9_number 14 = .ok (.iload_n 2, 1) := by decide +kernel
theorem dX9_number_15 : decode cX9_number 15 = .ok (.i2l, 1) := by decide +kernel
theorem dX9_number_16 : decode cX9_number 16 = .ok (.invokestatic 52, 3) := by decide +kernel
theorem dX9_number_19 : decode cX9_number 19 = .ok (.ifCond .ne 7, 3) := by decide +kernel
theorem dX9_number_22 : decode cX9_number 22 = .ok (.aload_n 0, 1) := by decide +kernel
theorem dX9_number_23 : decode cX9_number 23 = .ok (.invokevirtual 102, 3) := by decide +kernel
theorem dX9_number_26 : decode cX9_number 26 = .ok (.aload_n 0, 1) := by decide +kernel
theorem dX9_number_27 : decode cX9_number 27 = .ok (.getfield 75, 3) := by decide +kernel
theorem dX9_number_30 : decode cX9_number 30 = .ok (.l2i, 1) := by decide +kernel
theorem dX9_number_31 : decode cX9_number 31 = .ok (.istore_n 3, 1) := by decide +kernel
theorem dX9_number_32 : decode cX9_number 32 = .ok (.aload_n 0, 1) := by decide +kernel
theorem dX9_number_33 : decode cX9_number 33 = .ok (.getfield 95, 3) := by decide +kernel
theorem dX9_number_36 : decode cX9_number 36 = .ok (.ifCond .ne 7, 3) := by decide +kernel
theorem dX9_number_39 : decode cX9_number 39 = .ok (.aload_n 0, 1) := by decide +kernel
theorem dX9_number_40 : decode cX9_number 40 = .ok (.invokevirtual 105, 3) := by decide +kernel
theorem dX9_number_43 : decode cX9_number 43 = .ok (.iload_n 3, 1) := by decide +kernel
theorem dX9_number_44 : decode cX9_number 44 = .ok (.ireturn, 1) := by decide +kernel
theorem dX9_word_0 : decode cX9_word 0 = .ok (.lconst 0, 1) := by decide +kernel
theorem dX9_word_1 : decode cX9_word 1 = .ok (.lstore 6, 2) := by decide +kernel
theorem dX9_word_3 : decode cX9_word 3 = .ok (.ldc2_w 86, 3) := by decide +kernel
theorem dX9_word_6 : decode cX9_word 6 = .ok (.lload 6, 2) := by decide +kernel
theorem dX9_word_8 : decode cX9_word 8 = .ok (.lmul, 1) := by decide +kernel
theorem dX9_word_9 : decode cX9_word 9 = .ok (.iload_n 0, 1) := by decide +kernel
theorem dX9_word_10 : decode cX9_word 10 = .ok (.i2l, 1) := by decide +kernel
theorem dX9_word_11 : decode cX9_word 11 = .ok (.ladd, 1) := by decide +kernel
theorem dX9_word_12 : decode cX9_word 12 = .ok (.lstore 6, 2) := by decide +kernel
theorem dX9_word_14 : decode cX9_word 14 = .ok (.ldc2_w 86, 3) := by decide +kernel
theorem dX9_word_17 : decode cX9_word 17 = .ok (.lload 6, 2) := by decide +kernel
theorem dX9_word_19 : decode cX9_word 19 = .ok (.lmul, 1) := by decide +kernel
theorem dX9_word_20 : decode cX9_word 20 = .ok (.iload_n 1, 1) := by decide +kernel
theorem dX9_word_21 : decode cX9_word 21 = .ok (.i2l, 1) := by decide +kernel
theorem dX9_word_22 : decode cX9_word 22 = .ok (.ladd, 1) := by decide +kernel
theorem dX9_word_23 : decode cX9_word 23 = .ok (.lstore 6, 2) := by decide +kernel
theorem dX9_word_25 : decode cX9_word 25 = .ok (.ldc2_w 86, 3) := by decide +kernel
theorem dX9_word_28 : decode cX9_word 28 = .ok (.lload 6, 2) := by decide +kernel
theorem dX9_word_30 : decode cX9_word 30 = .ok (.lmul, 1) := by decide +kernel
theorem dX9_word_31 : decode cX9_word 31 = .ok (.iload_n 2, 1) := by decide +kernel
theorem dX9_word_32 : decode cX9_word 32 = .ok (.i2l, 1) := by decide +kernel
theorem dX9_word_33 : decode cX9_word 33 = .ok (.ladd, 1) := by decide +kernel
theorem dX9_word_34 : decode cX9_word 34 = .ok (.lstore 6, 2) := by decide +kernel
theorem dX9_word_36 : decode cX9_word 36 = .ok (.iload_n 3, 1) := by decide +kernel
theorem dX9_word_37 : decode cX9_word 37 = .ok (.ifCond .ne 8, 3) := by decide +kernel
theorem dX9_word_40 : decode cX9_word 40 = .ok (.lload 6, 2) := by decide +kernel
theorem dX9_word_42 : decode cX9_word 42 = .ok (.goto 12, 3) := by decide +kernel
theorem dX9_word_45 : decode cX9_word 45 = .ok (.ldc2_w 86, 3) := by decide +kernel
theorem dX9_word_48 : decode cX9_word 48 = .ok (.lload 6, 2) := by decide +kernel
theorem dX9_word_50 : decode cX9_word 50 = .ok (.lmul, 1) := by decide +kernel
theorem dX9_word_51 : decode cX9_word 51 = .ok (.iload_n 3, 1) := by decide +kernel
theorem dX9_word_52 : decode cX9_word 52 = .ok (.i2l, 1) := by decide +kernel
theorem dX9_word_53 : decode cX9_word 53 = .ok (.ladd, 1) := by decide +kernel
theorem dX9_word_54 : decode cX9_word 54 = .ok (.lstore 6, 2) := by decide +kernel
theorem dX9_word_56 : decode cX9_word 56 = .ok (.iload 4, 2) := by decide +kernel
theorem dX9_word_58 : decode cX9_word 58 = .ok (.ifCond .ne 8, 3) := by decide +kernel
theorem dX9_word_61 : decode cX9_word 61 = .ok (.lload 6, 2) := by decide +kernel
theorem dX9_word_63 : decode cX9_word 63 = .ok (.goto 13, 3) := by decide +kernel
theorem dX9_word_66 : decode cX9_word 66 = .ok (.ldc2_w 86, 3) := by decide +kernel
theorem dX9_word_69 : decode cX9_word 69 = .ok (.lload 6, 2) := by decide +kernel
theorem dX9_word_71 : decode cX9_word 71 = .ok (.lmul, 1) := by decide +kernel
theorem dX9_word_72 : decode cX9_word 72 = .ok (.iload 4, 2) := by decide +kernel
theorem dX9_word_74 : decode cX9_word 74 = .ok (.i2l, 1) := by decide +kernel
theorem dX9_word_75 : decode cX9_word 75 = .ok (.ladd, 1) := by decide +kernel
theorem dX9_word_76 : decode cX9_word 76 = .ok (.lstore 6, 2) := by decide +kernel
theorem dX9_word_78 : decode cX9_word 78 = .ok (.iload 5, 2) := by decide +kernel
theorem dX9_word_80 : decode cX9_word 80 = .ok (.ifCond .ne 8, 3) := by decide +kernel
theorem dX9_word_83 : decode cX9_word 83 = .ok (.lload 6, 2) := by decide +kernel
theorem dX9_word_85 : decode cX9_word 85 = .ok (.goto 13, 3) := by decide +kernel
theorem dX9_word_88 : decode cX9_word 88 = .ok (.ldc2_w 86, 3) := by decide +kernel
theorem dX9_word_91 : decode cX9_word 91 = .ok (.lload 6, 2) := by decide +kernel
theorem dX9_word_93 : decode cX9_word 93 = .ok (.lmul, 1) := by decide +kernel
theorem dX9_word_94 : decode cX9_word 94 = .ok (.iload 5, 2) := by decide +kernel
theorem dX9_word_96 : decode cX9_word 96 = .ok (.i2l, 1) := by decide +kernel
theorem dX9_word_97 : decode cX9_word 97 = .ok (.ladd, 1) := by decide +kernel
theorem dX9_word_98 : decode cX9_word 98 = .ok (.lreturn, 1) := by decide +kernel
theorem dX9_kindBy_0 : decode cX9_kindBy 0 = .ok (.aload_n 0, 1) := by decide +kernel
theorem dX9_kindBy_1 : decode cX9_kindBy 1 = .ok (.getfield 79, 3) := by decide +kernel
theorem dX9_kindBy_4 : decode cX9_kindBy 4 = .ok (.iconst 1, 1) := by decide +kernel
theorem dX9_kindBy_5 : decode cX9_kindBy 5 = .ok (.if_icmp .eq 5, 3) := by decide +kernel
theorem dX9_kindBy_8 : decode cX9_kindBy 8 = .ok (.iconst (-1), 1) := by decide +kernel
theorem dX9_kindBy_9 : decode cX9_kindBy 9 = .ok (.ireturn, 1) := by decide +kernel
theorem dX9_kindBy_10 : decode cX9_kindBy 10 = .ok (.aload_n 0, 1) := by decide +kernel
theorem dX9_kindBy_11 : decode cX9_kindBy 11 = .ok (.getfield 75, 3) := by decide +kernel
theorem dX9_kindBy_14 : decode cX9_kindBy 14 = .ok (.bipush 19, 2) := by decide +kernel
theorem dX9_kindBy_16 : decode cX9_kindBy 16 = .ok (.bipush 20, 2) := by decide +kernel
theorem dX9_kindBy_18 : decode cX9_kindBy 18 = .ok (.iconst 5, 1) := by decide +kernel
theorem dX9_kindBy_19 : decode cX9_kindBy 19 = .ok (.iconst 1, 1) := by decide +kernel
theorem dX9_kindBy_20 : decode cX9_kindBy 20 = .ok (.iconst 4, 1) := by decide +kernel
theorem dX9_kindBy_21 : decode cX9_kindBy 21 = .ok (.bipush 25, 2) := by decide +kernel
theorem dX9_kindBy_23 : decode cX9_kindBy 23 = .ok (.invokestatic 108, 3) := by decide +kernel
theorem dX9_kindBy_26 : decode cX9_kindBy 26 = .ok (.lcmp, 1) := by decide +kernel
theorem dX9_kindBy_27 : decode cX9_kindBy 27 = .ok (.ifCond .ne 7, 3) := by decide +kernel
theorem dX9_kindBy_30 : decode cX9_kindBy 30 = .ok (.iconst 0, 1) := by decide +kernel
theorem dX9_kindBy_31 : decode cX9_kindBy 31 = .ok (.goto 74, 3) := by decide +kernel
theorem dX9_kindBy_34 : decode cX9_kindBy 34 = .ok (.aload_n 0, 1) := by decide +kernel
theorem dX9_kindBy_35 : decode cX9_kindBy 35 = .ok (.getfield 75, 3) := by decide +kernel
theorem dX9_kindBy_38 : decode cX9_kindBy 38 = .ok (.bipush 15, 2) := by decide +kernel
theorem dX9_kindBy_40 : decode cX9_kindBy 40 = .ok (.bipush 12, 2) := by decide +kernel
theorem dX9_kindBy_42 : decode cX9_kindBy 42 = .ok (.iconst 4, 1) := by decide +kernel
theorem dX9_kindBy_43 : decode cX9_kindBy 43 = .ok (.iconst 0, 1) := by decide +kernel
theorem dX9_kindBy_44 : decode cX9_kindBy 44 = .ok (.iconst 0, 1) := by decide +kernel
theorem dX9_kindBy_45 : decode cX9_kindBy 45 = .ok (.iconst 0, 1) := by decide +kernel
theorem dX9_kindBy_46 : decode cX9_kindBy 46 = .ok (.invokestatic 108, 3) := by decide +kernel
theorem dX9_kindBy_49 : decode cX9_kindBy 49 = .ok (.lcmp, 1) := by decide +kernel
theorem dX9_kindBy_50 : decode cX9_kindBy 50 = .ok (.ifCond .ne 7, 3) := by decide +kernel
theorem dX9_kindBy_53 : decode cX9_kindBy 53 = .ok (.iconst 1, 1) := by decide +kernel
theorem dX9_kindBy_54 : decode cX9_kindBy 54 = .ok (.goto 51, 3) := by decide +kernel
theorem dX9_kindBy_57 : decode cX9_kindBy 57 = .ok (.aload_n 0, 1) := by decide +kernel
theorem dX9_kindBy_58 : decode cX9_kindBy 58 = .ok (.getfield 75, 3) := by decide +kernel
theorem dX9_kindBy_61 : decode cX9_kindBy 61 = .ok (.iconst 4, 1) := by decide +kernel
theorem dX9_kindBy_62 : decode cX9_kindBy 62 = .ok (.bipush 18, 2) := by decide +kernel
theorem dX9_kindBy_64 : decode cX9_kindBy 64 = .ok (.bipush 21, 2) := by decide +kernel
theorem dX9_kindBy_66 : decode cX9_kindBy 66 = .ok (.bipush 14, 2) := by decide +kernel
theorem dX9_kindBy_68 : decode cX9_kindBy 68 = .ok (.bipush 11, 2) := by decide +kernel
theorem dX9_kindBy_70 : decode cX9_kindBy 70 = .ok (.iconst 0, 1) := by decide +kernel
theorem dX9_kindBy_71 : decode cX9_kindBy 71 = .ok (.invokestatic 108, 3) := by decide +kernel
theorem dX9_kindBy_74 : decode cX9_kindBy 74 = .ok (.lcmp, 1) := by decide +kernel
theorem dX9_kindBy_75 : decode cX9_kindBy 75 = .ok (.ifCond .ne 7, 3) := by decide +kernel
theorem dX9_kindBy_78 : decode cX9_kindBy 78 = .ok (.iconst 2, 1) := by decide +kernel
theorem dX9_kindBy_79 : decode cX9_kindBy 79 = .ok (.goto 26, 3) := by decide +kernel
theorem dX9_kindBy_82 : decode cX9_kindBy 82 = .ok (.aload_n 0, 1) := by decide +kernel
theorem dX9_kindBy_83 : decode cX9_kindBy 83 = .ok (.getfield 75, 3) := by decide +kernel
theorem dX9_kindBy_86 : decode cX9_kindBy 86 = .ok (.iconst 2, 1) := by decide +kernel
theorem dX9_kindBy_87 : decode cX9_kindBy 87 = .ok (.iconst 1, 1) := by decide +kernel
theorem dX9_kindBy_88 : decode cX9_kindBy 88 = .ok (.iconst 3, 1) := by decide +kernel
theorem dX9_kindBy_89 : decode cX9_kindBy 89 = .ok (.bipush 11, 2) := by decide +kernel
theorem dX9_kindBy_91 : decode cX9_kindBy 91 = .ok (.iconst 0, 1) := by decide +kernel
theorem dX9_kindBy_92 : decode cX9_kindBy 92 = .ok (.iconst 0, 1) := by decide +kernel
theorem dX9_kindBy_93 : decode cX9_kindBy 93 = .ok (.invokestatic 108, 3) := by decide +kernel
theorem dX9_kindBy_96 : decode cX9_kindBy 96 = .ok (.lcmp, 1) := by decide +kernel
theorem dX9_kindBy_97 : decode cX9_kindBy 97 = .ok (.ifCond .ne 7, 3) := by decide +kernel
theorem dX9_kindBy_100 : decode cX9_kindBy 100 = .ok (.iconst 3, 1) := by decide +kernel
theorem dX9_kindBy_101 : decode cX9_kindBy 101 = .ok (.goto 4, 3) := by decide +kernel
theorem dX9_kindBy_104 : decode cX9_kindBy 104 = .ok (.iconst (-1), 1) := by decide +kernel
theorem dX9_kindBy_105 : decode cX9_kindBy 105 = .ok (.ireturn, 1) := by decide +kernel
theorem dX9_readClause_0 : decode cX9_readClause 0 = .ok (.aload_n 0, 1) := by decide +kernel
theorem dX9_readClause_1 : decode cX9_readClause 1 = .ok (.invokevirtual 112, 3) := by decide +kernel
theorem dX9_readClause_4 : decode cX9_readClause 4 = .ok (.istore_n 1, 1) := by decide +kernel
theorem dX9_readClause_5 : decode cX9_readClause 5 = .ok (.iload_n 1, 1) := by decide +kernel
theorem dX9_readClause_6 : decode cX9_readClause 6 = .ok (.iconst (-1), 1) := by decide +kernel
theorem dX9_readClause_7 : decode cX9_readClause 7 = .ok (.if_icmp .eq 81, 3) := by decide +kernel
theorem dX9_readClause_10 : decode cX9_readClause 10 = .ok (.aload_n 0, 1) := by decide +kernel
theorem dX9_readClause_11 : decode cX9_readClause 11 = .ok (.getfield 16, 3) := by decide +kernel
theorem dX9_readClause_14 : decode cX9_readClause 14 = .ok (.iconst 2, 1) := by decide +kernel
theorem dX9_readClause_15 : decode cX9_readClause 15 = .ok (.iaload, 1) := by decide +kernel
theorem dX9_readClause_16 : decode cX9_readClause 16 = .ok (.bipush 6, 2) := by decide +kernel
theorem dX9_readClause_18 : decode cX9_readClause 18 = .ok (.if_icmp .ne 8, 3) := by decide +kernel
theorem dX9_readClause_21 : decode cX9_readClause 21 = .ok (.aload_n 0, 1) := by decide +kernel
theorem dX9_readClause_22 : decode cX9_readClause 22 = .ok (.invokevirtual 102, 3) := by decide +kernel
theorem dX9_readClause_25 : decode cX9_readClause 25 = .ok (.return_, 1) := by decide +kernel
theorem dX9_readClause_26 : decode cX9_readClause 26 = .ok (.aload_n 0, 1) := by decide +kernel
theorem dX9_readClause_27 : decode cX9_readClause 27 = .ok (.invokevirtual 105, 3) := by decide +kernel
theorem dX9_readClause_30 : decode cX9_readClause 30 = .ok (.aload_n 0, 1) := by decide +kernel
theorem dX9_readClause_31 : decode cX9_readClause 31 = .ok (.iconst 1, 1) := by decide +kernel
theorem dX9_readClause_32 : decode cX9_readClause 32 = .ok (.bipush 9, 2) := by decide +kernel
theorem dX9_readClause_34 : decode cX9_readClause 34 = .ok (.invokevirtual 116, 3) := by decide +kernel
theorem dX9_readClause_37 : decode cX9_readClause 37 = .ok (.istore_n 2, 1) := by decide +kernel
theorem dX9_readClause_38 : decode cX9_readClause 38 = .ok (.aload_n 0, 1) := by decide +kernel
theorem dX9_readClause_39 : decode cX9_readClause 39 = .ok (.getfield 95, 3) := by decide +kernel
theorem dX9_readClause_42 : decode cX9_readClause 42 = .ok (.ifCond .ne 43, 3) := by decide +kernel
theorem dX9_readClause_45 : decode cX9_readClause 45 = .ok (.aload_n 0, 1) := by decide +kernel
theorem dX9_readClause_46 : decode cX9_readClause 46 = .ok (.getfield 16, 3) := by decide +kernel
theorem dX9_readClause_49 : decode cX9_readClause 49 = .ok (.bipush 24, 2) := by decide +kernel
theorem dX9_readClause_51 : decode cX9_readClause 51 = .ok (.aload_n 0, 1) := by decide +kernel
theorem dX9_readClause_52 : decode cX9_readClause 52 = .ok (.getfield 16, 3) := by decide +kernel
theorem dX9_readClause_55 : decode cX9_readClause 55 = .ok (.iconst 2, 1) := by decide +kernel
theorem dX9_readClause_56 : decode cX9_readClause 56 = .ok (.iaload, 1) := by decide +kernel
theorem dX9_readClause_57 : decode cX9_readClause 57 = .ok (.iadd, 1) := by decide +kernel
theorem dX9_readClause_58 : decode cX9_readClause 58 = .ok (.iload_n 1, 1) := by decide +kernel
theorem dX9_readClause_59 : decode cX9_readClause 59 = .ok (.iastore, 1) := by decide +kernel
theorem dX9_readClause_60 : decode cX9_readClause 60 = .ok (.aload_n 0, 1) := by decide +kernel
theorem dX9_readClause_61 : decode cX9_readClause 61 = .ok (.getfield 16, 3) := by decide +kernel
theorem dX9_readClause_64 : decode cX9_readClause 64 = .ok (.bipush 30, 2) := by decide +kernel
theorem dX9_readClause_66 : decode cX9_readClause 66 = .ok (.aload_n 0, 1) := by decide +kernel
theorem dX9_readClause_67 : decode cX9_readClause 67 = .ok (.getfield 16, 3) := by decide +kernel
theorem dX9_readClause_70 : decode cX9_readClause 70 = .ok (.iconst 2, 1) := by decide +kernel
theorem dX9_readClause_71 : decode cX9_readClause 71 = .ok (.iaload, 1) := by decide +kernel
theorem dX9_readClause_72 : decode cX9_readClause 72 = .ok (.iadd, 1) := by decide +kernel
theorem dX9_readClause_73 : decode cX9_readClause 73 = .ok (.iload_n 2, 1) := by decide +kernel
theorem dX9_readClause_74 : decode cX9_readClause 74 = .ok (.iastore, 1) := by decide +kernel
theorem dX9_readClause_75 : decode cX9_readClause 75 = .ok (.aload_n 0, 1) := by decide +kernel
theorem dX9_readClause_76 : decode cX9_readClause 76 = .ok (.getfield 16, 3) := by decide +kernel
theorem dX9_readClause_79 : decode cX9_readClause 79 = .ok (.iconst 2, 1) := by decide +kernel
theorem dX9_readClause_80 : decode cX9_readClause 80 = .ok (.dup2, 1) := by decide +kernel
theorem dX9_readClause_81 : decode cX9_readClause 81 = .ok (.iaload, 1) := by decide +kernel
theorem dX9_readClause_82 : decode cX9_readClause 82 = .ok (.iconst 1, 1) := by decide +kernel
theorem dX9_readClause_83 : decode cX9_readClause 83 = .ok (.iadd, 1) := by decide +kernel
theorem dX9_readClause_84 : decode cX9_readClause 84 = .ok (.iastore, 1) := by decide +kernel
theorem dX9_readClause_85 : decode cX9_readClause 85 = .ok (.goto 299, 3) := by decide +kernel
theorem dX9_readClause_88 : decode cX9_readClause 88 = .ok (.aload_n 0, 1) := by decide +kernel
theorem dX9_readClause_89 : decode cX9_readClause 89 = .ok (.getfield 79, 3) := by decide +kernel
theorem dX9_readClause_92 : decode cX9_readClause 92 = .ok (.iconst 1, 1) := by decide +kernel
theorem dX9_readClause_93 : decode cX9_readClause 93 = .ok (.if_icmp .ne 52, 3) := by decide +kernel
theorem dX9_readClause_96 : decode cX9_readClause 96 = .ok (.aload_n 0, 1) := by decide +kernel
theorem dX9_readClause_97 : decode cX9_readClause 97 = .ok (.getfield 75, 3) := by decide +kernel
theorem dX9_readClause_100 : decode cX9_readClause 100 = .ok (.bipush 18, 2) := by decide +kernel
theorem dX9_readClause_102 : decode cX9_readClause 102 = .ok (.bipush 15, 2) := by decide +kernel
theorem dX9_readClause_104 : decode cX9_readClause 104 = .ok (.iconst 1, 1) := by decide +kernel
theorem dX9_readClause_105 : decode cX9_readClause 105 = .ok (.iconst 4, 1) := by decide +kernel
theorem dX9_readClause_106 : decode cX9_readClause 106 = .ok (.iconst 0, 1) := by decide +kernel
theorem dX9_readClause_107 : decode cX9_readClause 107 = .ok (.iconst 0, 1) := by decide +kernel
theorem dX9_readClause_108 : decode cX9_readClause 108 = .ok (.invokestatic 108, 3) := by decide +kernel
theorem dX9_readClause_111 : decode cX9_readClause 111 = .ok (.lcmp, 1) := by decide +kernel
theorem dX9_readClause_112 : decode cX9_readClause 112 = .ok (.ifCond .ne 33, 3) := by decide +kernel
theorem dX9_readClause_115 : decode cX9_readClause 115 = .ok (.aload_n 0, 1) := by decide +kernel
theorem dX9_readClause_116 : decode cX9_readClause 116 = .ok (.invokevirtual 105, 3) := by decide +kernel
theorem dX9_readClause_119 : decode cX9_readClause 119 = .ok (.aload_n 0, 1) := by decide +kernel
theorem dX9_readClause_120 : decode cX9_readClause 120 = .ok (.iconst 4, 1) := by decide +kernel
theorem dX9_readClause_121 : decode cX9_readClause 121 = .ok (.bipush 20, 2) := by decide +kernel
theorem dX9_readClause_123 : decode cX9_readClause 123 = .ok (.invokevirtual 116, 3) := by decide +kernel
theorem dX9_readClause_126 : decode cX9_readClause 126 = .ok (.istore_n 2, 1) := by decide +kernel
theorem dX9_readClause_127 : decode cX9_readClause 127 = .ok (.aload_n 0, 1) := by decide +kernel
theorem dX9_readClause_128 : decode cX9_readClause 128 = .ok (.getfield 95, 3) := by decide +kernel
theorem dX9_readClause_131 : decode cX9_readClause 131 = .ok (.ifCond .ne 11, 3) := by decide +kernel
theorem dX9_readClause_134 : decode cX9_readClause 134 = .ok (.aload_n 0, 1) := by decide +kernel
theorem dX9_readClause_135 : decode cX9_readClause 135 = .ok (.getfield 16, 3) := by decide +kernel
theorem dX9_readClause_138 : decode cX9_readClause 138 = .ok (.iload_n 2, 1) := by decide +kernel
theorem dX9_readClause_139 : decode cX9_readClause 139 = .ok (.invokestatic 44, 3) := by decide +kernel
theorem dX9_readClause_142 : decode cX9_readClause 142 = .ok (.goto 242, 3) := by decide +kernel
theorem dX9_readClause_145 : decode cX9_readClause 145 = .ok (.aload_n 0, 1) := by decide +kernel
theorem dX9_readClause_146 : decode cX9_readClause 146 = .ok (.getfield 79, 3) := by decide +kernel
theorem dX9_readClause_149 : decode cX9_readClause 149 = .ok (.iconst 1, 1) := by decide +kernel
theorem dX9_readClause_150 : decode cX9_readClause 150 = .ok (.if_icmp .ne 121, 3) := by decide +kernel
theorem dX9_readClause_153 : decode cX9_readClause 153 = .ok (.aload_n 0, 1) := by decide +kernel
theorem dX9_readClause_154 : decode cX9_readClause 154 = .ok (.getfield 75, 3) := by decide +kernel
theorem dX9_readClause_157 : decode cX9_readClause 157 = .ok (.bipush 8, 2) := by decide +kernel
theorem dX9_readClause_159 : decode cX9_readClause 159 = .ok (.bipush 9, 2) := by decide +kernel
theorem dX9_readClause_161 : decode cX9_readClause 161 = .ok (.bipush 12, 2) := by decide +kernel
theorem dX9_readClause_163 : decode cX9_readClause 163 = .ok (.bipush 12, 2) := by decide +kernel
theorem dX9_readClause_165 : decode cX9_readClause 165 = .ok (.iconst 0, 1) := by decide +kernel
theorem dX9_readClause_166 : decode cX9_readClause 166 = .ok (.iconst 0, 1) := by decide +kernel
theorem dX9_readClause_167 : decode cX9_readClause 167 = .ok (.invokestatic 108, 3) := by decide +kernel
theorem dX9_readClause_170 : decode cX9_readClause 170 = .ok (.lcmp, 1) := by decide +kernel
theorem dX9_readClause_171 : decode cX9_readClause 171 = .ok (.ifCond .ne 100, 3) := by decide +kernel
theorem dX9_readClause_174 : decode cX9_readClause 174 = .ok (.aload_n 0, 1) := by decide +kernel
theorem dX9_readClause_175 : decode cX9_readClause 175 = .ok (.invokevirtual 105, 3) := by decide +kernel
theorem dX9_readClause_178 : decode cX9_readClause 178 = .ok (.aload_n 0, 1) := by decide +kernel
theorem dX9_readClause_179 : decode cX9_readClause 179 = .ok (.iconst 1, 1) := by decide +kernel
theorem dX9_readClause_180 : decode cX9_readClause 180 = .ok (.aload_n 0, 1) := by decide +kernel
theorem dX9_readClause_181 : decode cX9_readClause 181 = .ok (.getfield 16, 3) := by decide +kernel
theorem dX9_readClause_184 : decode cX9_readClause 184 = .ok (.iconst 0, 1) := by decide +kernel
theorem dX9_readClause_185 : decode cX9_readClause 185 = .ok (.iaload, 1) := by decide +kernel
theorem dX9_readClause_186 : decode cX9_readClause 186 = .ok (.invokevirtual 116, 3) := by decide +kernel
theorem dX9_readClause_189 : decode cX9_readClause 189 = .ok (.istore_n 2, 1) := by decide +kernel
theorem dX9_readClause_190 : decode cX9_readClause 190 = .ok (.aload_n 0, 1) := by decide +kernel
theorem dX9_readClause_191 : decode cX9_readClause 191 = .ok (.getfield 95, 3) := by decide +kernel
theorem dX9_readClause_194 : decode cX9_readClause 194 = .ok (.ifCond .eq 7, 3) := by decide +kernel
theorem dX9_readClause_197 : decode cX9_readClause 197 = .ok (.iload_n 2, 1) := by decide +kernel
theorem dX9_readClause_198 : decode cX9_readClause 198 = .ok (.goto 14, 3) := by decide +kernel
theorem dX9_readClause_201 : decode cX9_readClause 201 = .ok (.aload_n 0, 1) := by decide +kernel
theorem dX9_readClause_202 : decode cX9_readClause 202 = .ok (.iload_n 2, 1) := by decide +kernel
theorem dX9_readClause_203 : decode cX9_readClause 203 = .ok (.aload_n 0, 1) := by decide +kernel
theorem dX9_readClause_204 : decode cX9_readClause 204 = .ok (.getfield 16, 3) := by decide +kernel
theorem dX9_readClause_207 : decode cX9_readClause 207 = .ok (.iconst 0, 1) := by decide +kernel
theorem dX9_readClause_208 : decode cX9_readClause 208 = .ok (.iaload, 1) := by decide +kernel
theorem dX9_readClause_209 : decode cX9_readClause 209 = .ok (.invokevirtual 116, 3) := by decide +kernel
theorem dX9_readClause_212 : decode cX9_readClause 212 = .ok (.istore_n 3, 1) := by decide +kernel
theorem dX9_readClause_213 : decode cX9_readClause 213 = .ok (.aload_n 0, 1) := by decide +kernel
theorem dX9_readClause_214 : decode cX9_readClause 214 = .ok (.getfield 95, 3) := by decide +kernel
theorem dX9_readClause_217 : decode cX9_readClause 217 = .ok (.ifCond .eq 7, 3) := by decide +kernel
theorem dX9_readClause_220 : decode cX9_readClause 220 = .ok (.iconst 0, 1) := by decide +kernel
theorem dX9_readClause_221 : decode cX9_readClause 221 = .ok (.goto 10, 3) := by decide +kernel
theorem dX9_readClause_224 : decode cX9_readClause 224 = .ok (.aload_n 0, 1) := by decide +kernel
theorem dX9_readClause_225 : decode cX9_readClause 225 = .ok (.iconst 1, 1) := by decide +kernel
theorem dX9_readClause_226 : decode cX9_readClause 226 = .ok (.bipush 9, 2) := by decide +kernel
theorem dX9_readClause_228 : decode cX9_readClause 228 = .ok (.invokevirtual 116, 3) := by decide +kernel
theorem dX9_readClause_231 : decode cX9_readClause 231 = .ok (.istore 4, 2) := by decide +kernel
theorem dX9_readClause_233 : decode cX9_readClause 233 = .ok (.iload_n 2, 1) := by decide +kernel
theorem dX9_readClause_234 : decode cX9_readClause 234 = .ok (.istore 5, 2) := by decide +kernel
theorem dX9_readClause_236 : decode cX9_readClause 236 = .ok (.iload 5, 2) := by decide +kernel
theorem dX9_readClause_238 : decode cX9_readClause 238 = .ok (.iload_n 3, 1) := by decide +kernel
theorem dX9_readClause_239 : decode cX9_readClause 239 = .ok (.if_icmp .gt 29, 3) := by decide +kernel
theorem dX9_readClause_242 : decode cX9_readClause 242 = .ok (.aload_n 0, 1) := by decide +kernel
theorem dX9_readClause_243 : decode cX9_readClause 243 = .ok (.getfield 95, 3) := by decide +kernel
theorem dX9_readClause_246 : decode cX9_readClause 246 = .ok (.ifCond .ne 22, 3) := by decide +kernel
theorem dX9_readClause_249 : decode cX9_readClause 249 = .ok (.aload_n 0, 1) := by decide +kernel
theorem dX9_readClause_250 : decode cX9_readClause 250 = .ok (.getfield 16, 3) := by decide +kernel
theorem dX9_readClause_253 : decode cX9_readClause 253 = .ok (.iconst 4, 1) := by decide +kernel
theorem dX9_readClause_254 : decode cX9_readClause 254 = .ok (.iload 5, 2) := by decide +kernel
theorem dX9_readClause_256 : decode cX9_readClause 256 = .ok (.iadd, 1) := by decide +kernel
theorem dX9_readClause_257 : decode cX9_readClause 257 = .ok (.iconst 1, 1) := by decide +kernel
theorem dX9_readClause_258 : decode cX9_readClause 258 = .ok (.isub, 1) := by decide +kernel
theorem dX9_readClause_259 : decode cX9_readClause 259 = .ok (.iload 4, 2) := by decide +kernel
theorem dX9_readClause_261 : decode cX9_readClause 261 = .ok (.iastore, 1) := by decide +kernel
theorem dX9_readClause_262 : decode cX9_readClause 262 = .ok (.iinc 5 1, 3) := by decide +kernel
theorem dX9_readClause_265 : decode cX9_readClause 265 = .ok (.goto (-29), 3) := by decide +kernel
theorem dX9_readClause_268 : decode cX9_readClause 268 = .ok (.goto 116, 3) := by decide +kernel
theorem dX9_readClause_271 : decode cX9_readClause 271 = .ok (.aload_n 0, 1) := by decide +kernel
theorem dX9_readClause_272 : decode cX9_readClause 272 = .ok (.getfield 79, 3) := by decide +kernel
theorem dX9_readClause_275 : decode cX9_readClause 275 = .ok (.iconst 1, 1) := by decide +kernel
theorem dX9_readClause_276 : decode cX9_readClause 276 = .ok (.if_icmp .ne 61, 3) := by decide +kernel
theorem dX9_readClause_279 : decode cX9_readClause 279 = .ok (.aload_n 0, 1) := by decide +kernel
theorem dX9_readClause_280 : decode cX9_readClause 280 = .ok (.getfield 75, 3) := by decide +kernel
theorem dX9_readClause_283 : decode cX9_readClause 283 = .ok (.bipush 13, 2) := by decide +kernel
theorem dX9_readClause_285 : decode cX9_readClause 285 = .ok (.bipush 9, 2) := by decide +kernel
theorem dX9_readClause_287 : decode cX9_readClause 287 = .ok (.bipush 12, 2) := by decide +kernel
theorem dX9_readClause_289 : decode cX9_readClause 289 = .ok (.iconst 5, 1) := by decide +kernel
theorem dX9_readClause_290 : decode cX9_readClause 290 = .ok (.iconst 0, 1) := by decide +kernel
theorem dX9_readClause_291 : decode cX9_readClause 291 = .ok (.iconst 0, 1) := by decide +kernel
theorem dX9_readClause_292 : decode cX9_readClause 292 = .ok (.invokestatic 108, 3) := by decide +kernel
theorem dX9_readClause_295 : decode cX9_readClause 295 = .ok (.lcmp, 1) := by decide +kernel
theorem dX9_readClause_296 : decode cX9_readClause 296 = .ok (.ifCond .ne 41, 3) := by decide +kernel
theorem dX9_readClause_299 : decode cX9_readClause 299 = .ok (.aload_n 0, 1) := by decide +kernel
theorem dX9_readClause_300 : decode cX9_readClause 300 = .ok (.invokevirtual 105, 3) := by decide +kernel
theorem dX9_readClause_303 : decode cX9_readClause 303 = .ok (.aload_n 0, 1) := by decide +kernel
theorem dX9_readClause_304 : decode cX9_readClause 304 = .ok (.iconst 1, 1) := by decide +kernel
theorem dX9_readClause_305 : decode cX9_readClause 305 = .ok (.bipush 40, 2) := by decide +kernel
theorem dX9_readClause_307 : decode cX9_readClause 307 = .ok (.invokevirtual 116, 3) := by decide +kernel
theorem dX9_readClause_310 : decode cX9_readClause 310 = .ok (.istore_n 2, 1) := by decide +kernel
theorem dX9_readClause_311 : decode cX9_readClause 311 = .ok (.aload_n 0, 1) := by decide +kernel
theorem dX9_readClause_312 : decode cX9_readClause 312 = .ok (.getfield 16, 3) := by decide +kernel
theorem dX9_readClause_315 : decode cX9_readClause 315 = .ok (.iconst 1, 1) := by decide +kernel
theorem dX9_readClause_316 : decode cX9_readClause 316 = .ok (.aload_n 0, 1) := by decide +kernel
theorem dX9_readClause_317 : decode cX9_readClause 317 = .ok (.getfield 95, 3) := by decide +kernel
theorem dX9_readClause_320 : decode cX9_readClause 320 = .ok (.ifCond .eq 12, 3) := by decide +kernel
theorem dX9_readClause_323 : decode cX9_readClause 323 = .ok (.aload_n 0, 1) := by decide +kernel
theorem dX9_readClause_324 : decode cX9_readClause 324 = .ok (.getfield 16, 3) := by decide +kernel
theorem dX9_readClause_327 : decode cX9_readClause 327 = .ok (.iconst 1, 1) := by decide +kernel
theorem dX9_readClause_328 : decode cX9_readClause 328 = .ok (.iaload, 1) := by decide +kernel
theorem dX9_readClause_329 : decode cX9_readClause 329 = .ok (.goto 4, 3) := by decide +kernel
theorem dX9_readClause_332 : decode cX9_readClause 332 = .ok (.iload_n 2, 1) := by decide +kernel
theorem dX9_readClause_333 : decode cX9_readClause 333 = .ok (.iastore, 1) := by decide +kernel
theorem dX9_readClause_334 : decode cX9_readClause 334 = .ok (.goto 50, 3) := by decide +kernel
theorem dX9_readClause_337 : decode cX9_readClause 337 = .ok (.aload_n 0, 1) := by decide +kernel
theorem dX9_readClause_338 : decode cX9_readClause 338 = .ok (.getfield 79, 3) := by decide +kernel
theorem dX9_readClause_341 : decode cX9_readClause 341 = .ok (.iconst 1, 1) := by decide +kernel
theorem dX9_readClause_342 : decode cX9_readClause 342 = .ok (.if_icmp .ne 38, 3) := by decide +kernel
theorem dX9_readClause_345 : decode cX9_readClause 345 = .ok (.aload_n 0, 1) := by decide +kernel
theorem dX9_readClause_346 : decode cX9_readClause 346 = .ok (.getfield 75, 3) := by decide +kernel
theorem dX9_readClause_349 : decode cX9_readClause 349 = .ok (.bipush 14, 2) := by decide +kernel
theorem dX9_readClause_351 : decode cX9_readClause 351 = .ok (.bipush 15, 2) := by decide +kernel
theorem dX9_readClause_353 : decode cX9_readClause 353 = .ok (.iconst 2, 1) := by decide +kernel
theorem dX9_readClause_354 : decode cX9_readClause 354 = .ok (.bipush 15, 2) := by decide +kernel
theorem dX9_readClause_356 : decode cX9_readClause 356 = .ok (.iconst 4, 1) := by decide +kernel
theorem dX9_readClause_357 : decode cX9_readClause 357 = .ok (.bipush 25, 2) := by decide +kernel
theorem dX9_readClause_359 : decode cX9_readClause 359 = .ok (.invokestatic 108, 3) := by decide +kernel
theorem dX9_readClause_362 : decode cX9_readClause 362 = .ok (.lcmp, 1) := by decide +kernel
theorem dX9_readClause_363 : decode cX9_readClause 363 = .ok (.ifCond .ne 17, 3) := by decide +kernel
theorem dX9_readClause_366 : decode cX9_readClause 366 = .ok (.aload_n 0, 1) := by decide +kernel
theorem dX9_readClause_367 : decode cX9_readClause 367 = .ok (.invokevirtual 105, 3) := by decide +kernel
theorem dX9_readClause_370 : decode cX9_readClause 370 = .ok (.aload_n 0, 1) := by decide +kernel
theorem dX9_readClause_371 : decode cX9_readClause 371 = .ok (.getfield 16, 3) := by decide +kernel
theorem dX9_readClause_374 : decode cX9_readClause 374 = .ok (.iconst 2, 1) := by decide +kernel
theorem dX9_readClause_375 : decode cX9_readClause 375 = .ok (.iconst 0, 1) := by decide +kernel
theorem dX9_readClause_376 : decode cX9_readClause 376 = .ok (.iastore, 1) := by decide +kernel
theorem dX9_readClause_377 : decode cX9_readClause 377 = .ok (.goto 7, 3) := by decide +kernel
theorem dX9_readClause_380 : decode cX9_readClause 380 = .ok (.aload_n 0, 1) := by decide +kernel
theorem dX9_readClause_381 : decode cX9_readClause 381 = .ok (.invokevirtual 102, 3) := by decide +kernel
theorem dX9_readClause_384 : decode cX9_readClause 384 = .ok (.return_, 1) := by decide +kernel
theorem dX9_read_0 : decode cX9_read 0 = .ok (.iconst 0, 1) := by decide +kernel
theorem dX9_read_1 : decode cX9_read 1 = .ok (.istore_n 1, 1) := by decide +kernel
theorem dX9_read_2 : decode cX9_read 2 = .ok (.iload_n 1, 1) := by decide +kernel
theorem dX9_read_3 : decode cX9_read 3 = .ok (.bipush 36, 2) := by decide +kernel
theorem dX9_read_5 : decode cX9_read 5 = .ok (.if_icmp .ge 21, 3) := by decide +kernel
theorem dX9_read_8 : decode cX9_read 8 = .ok (.aload_n 0, 1) := by decide +kernel
theorem dX9_read_9 : decode cX9_read 9 = .ok (.getfield 16, 3) := by decide +kernel
theorem dX9_read_12 : decode cX9_read 12 = .ok (.iload_n 1, 1) := by decide +kernel
theorem dX9_read_13 : decode cX9_read 13 = .ok (.aload_n 0, 1) := by decide +kernel
theorem dX9_read_14 : decode cX9_read 14 = .ok (.getfield 13, 3) := by decide +kernel
theorem dX9_read_17 : decode cX9_read 17 = .ok (.iload_n 1, 1) := by decide +kernel
theorem dX9_read_18 : decode cX9_read 18 = .ok (.iaload, 1) := by decide +kernel
theorem dX9_read_19 : decode cX9_read 19 = .ok (.iastore, 1) := by decide +kernel
theorem dX9_read_20 : decode cX9_read 20 = .ok (.iinc 1 1, 3) := by decide +kernel
theorem dX9_read_23 : decode cX9_read 23 = .ok (.goto (-21), 3) := by decide +kernel
theorem dX9_read_26 : decode cX9_read 26 = .ok (.aload_n 0, 1) := by decide +kernel
theorem dX9_read_27 : decode cX9_read 27 = .ok (.iconst 0, 1) := by decide +kernel
theorem dX9_read_28 : decode cX9_read 28 = .ok (.putfield 69, 3) := by decide +kernel
theorem dX9_read_31 : decode cX9_read 31 = .ok (.aload_n 0, 1) := by decide +kernel
theorem dX9_read_32 : decode cX9_read 32 = .ok (.iconst 0, 1) := by decide +kernel
theorem dX9_read_33 : decode cX9_read 33 = .ok (.putfield 95, 3) := by decide +kernel
theorem dX9_read_36 : decode cX9_read 36 = .ok (.aload_n 0, 1) := by decide +kernel
theorem dX9_read_37 : decode cX9_read 37 = .ok (.invokevirtual 105, 3) := by decide +kernel
theorem dX9_read_40 : decode cX9_read 40 = .ok (.iconst 0, 1) := by decide +kernel
theorem dX9_read_41 : decode cX9_read 41 = .ok (.istore_n 1, 1) := by decide +kernel
theorem dX9_read_42 : decode cX9_read 42 = .ok (.iconst 1, 1) := by decide +kernel
theorem dX9_read_43 : decode cX9_read 43 = .ok (.istore_n 2, 1) := by decide +kernel
theorem dX9_read_44 : decode cX9_read 44 = .ok (.iload_n 2, 1) := by decide +kernel
theorem dX9_read_45 : decode cX9_read 45 = .ok (.ifCond .eq 75, 3) := by decide +kernel
theorem dX9_read_48 : decode cX9_read 48 = .ok (.aload_n 0, 1) := by decide +kernel
theorem dX9_read_49 : decode cX9_read 49 = .ok (.invokevirtual 120, 3) := by decide +kernel
theorem dX9_read_52 : decode cX9_read 52 = .ok (.iinc 1 1, 3) := by decide +kernel
theorem dX9_read_55 : decode cX9_read 55 = .ok (.iconst 0, 1) := by decide +kernel
theorem dX9_read_56 : decode cX9_read 56 = .ok (.istore_n 2, 1) := by decide +kernel
theorem dX9_read_57 : decode cX9_read 57 = .ok (.aload_n 0, 1) := by decide +kernel
theorem dX9_read_58 : decode cX9_read 58 = .ok (.getfield 95, 3) := by decide +kernel
theorem dX9_read_61 : decode cX9_read 61 = .ok (.ifCond .ne (-17), 3) := by decide +kernel
theorem dX9_read_64 : decode cX9_read 64 = .ok (.aload_n 0, 1) := by decide +kernel
theorem dX9_read_65 : decode cX9_read 65 = .ok (.getfield 79, 3) := by decide +kernel
theorem dX9_read_68 : decode cX9_read 68 = .ok (.ifCond .eq (-24), 3) := by decide +kernel
theorem dX9_read_71 : decode cX9_read 71 = .ok (.aload_n 0, 1) := by decide +kernel
theorem dX9_read_72 : decode cX9_read 72 = .ok (.getfield 79, 3) := by decide +kernel
theorem dX9_read_75 : decode cX9_read 75 = .ok (.iconst 3, 1) := by decide +kernel
theorem dX9_read_76 : decode cX9_read 76 = .ok (.if_icmp .ne 24, 3) := by decide +kernel
theorem dX9_read_79 : decode cX9_read 79 = .ok (.aload_n 0, 1) := by decide +kernel
theorem dX9_read_80 : decode cX9_read 80 = .ok (.getfield 75, 3) := by decide +kernel
theorem dX9_read_83 : decode cX9_read 83 = .ok (.ldc2_w 123, 3) := by decide +kernel
theorem dX9_read_86 : decode cX9_read 86 = .ok (.lcmp, 1) := by decide +kernel
theorem dX9_read_87 : decode cX9_read 87 = .ok (.ifCond .ne 13, 3) := by decide +kernel
theorem dX9_read_90 : decode cX9_read 90 = .ok (.iload_n 1, 1) := by decide +kernel
theorem dX9_read_91 : decode cX9_read 91 = .ok (.bipush 14, 2) := by decide +kernel
theorem dX9_read_93 : decode cX9_read 93 = .ok (.if_icmp .ge 7, 3) := by decide +kernel
theorem dX9_read_96 : decode cX9_read 96 = .ok (.iconst 1, 1) := by decide +kernel
theorem dX9_read_97 : decode cX9_read 97 = .ok (.goto 4, 3) := by decide +kernel
theorem dX9_read_100 : decode cX9_read 100 = .ok (.iconst 0, 1) := by decide +kernel
theorem dX9_read_101 : decode cX9_read 101 = .ok (.istore_n 2, 1) := by decide +kernel
theorem dX9_read_102 : decode cX9_read 102 = .ok (.iload_n 2, 1) := by decide +kernel
theorem dX9_read_103 : decode cX9_read 103 = .ok (.ifCond .eq 10, 3) := by decide +kernel
theorem dX9_read_106 : decode cX9_read 106 = .ok (.aload_n 0, 1) := by decide +kernel
theorem dX9_read_107 : decode cX9_read 107 = .ok (.invokevirtual 105, 3) := by decide +kernel
theorem dX9_read_110 : decode cX9_read 110 = .ok (.goto (-66), 3) := by decide +kernel
theorem dX9_read_113 : decode cX9_read 113 = .ok (.aload_n 0, 1) := by decide +kernel
theorem dX9_read_114 : decode cX9_read 114 = .ok (.invokevirtual 102, 3) := by decide +kernel
theorem dX9_read_117 : decode cX9_read 117 = .ok (.goto (-73), 3) := by decide +kernel
theorem dX9_read_120 : decode cX9_read 120 = .ok (.iload_n 1, 1) := by decide +kernel
theorem dX9_read_121 : decode cX9_read 121 = .ok (.ireturn, 1) := by decide +kernel
theorem dX9_fault_0 : decode cX9_fault 0 = .ok (.aload_n 0, 1) := by decide +kernel
theorem dX9_fault_1 : decode cX9_fault 1 = .ok (.iconst 0, 1) := by decide +kernel
theorem dX9_fault_2 : decode cX9_fault 2 = .ok (.putfield 48, 3) := by decide +kernel
theorem dX9_fault_5 : decode cX9_fault 5 = .ok (.aload_n 0, 1) := by decide +kernel
theorem dX9_fault_6 : decode cX9_fault 6 = .ok (.invokevirtual 125, 3) := by decide +kernel
theorem dX9_fault_9 : decode cX9_fault 9 = .ok (.istore_n 1, 1) := by decide +kernel
theorem dX9_fault_10 : decode cX9_fault 10 = .ok (.aload_n 0, 1) := by decide +kernel
theorem dX9_fault_11 : decode cX9_fault 11 = .ok (.getfield 95, 3) := by decide +kernel
theorem dX9_fault_14 : decode cX9_fault 14 = .ok (.ifCond .eq 10, 3) := by decide +kernel
theorem dX9_fault_17 : decode cX9_fault 17 = .ok (.aload_n 0, 1) := by decide +kernel
theorem dX9_fault_18 : decode cX9_fault 18 = .ok (.getfield 99, 3) := by decide +kernel
theorem dX9_fault_21 : decode cX9_fault 21 = .ok (.goto 4, 3) := by decide +kernel
theorem dX9_fault_24 : decode cX9_fault 24 = .ok (.iconst (-1), 1) := by decide +kernel
theorem dX9_fault_25 : decode cX9_fault 25 = .ok (.ireturn, 1) := by decide +kernel
theorem dX9_road_0 : decode cX9_road 0 = .ok (.aload_n 0, 1) := by decide +kernel
theorem dX9_road_1 : decode cX9_road 1 = .ok (.iconst 0, 1) := by decide +kernel
theorem dX9_road_2 : decode cX9_road 2 = .ok (.putfield 48, 3) := by decide +kernel
theorem dX9_road_5 : decode cX9_road 5 = .ok (.aload_n 0, 1) := by decide +kernel
theorem dX9_road_6 : decode cX9_road 6 = .ok (.invokevirtual 125, 3) := by decide +kernel
theorem dX9_road_9 : decode cX9_road 9 = .ok (.istore_n 1, 1) := by decide +kernel
theorem dX9_road_10 : decode cX9_road 10 = .ok (.aload_n 0, 1) := by decide +kernel
theorem dX9_road_11 : decode cX9_road 11 = .ok (.getfield 95, 3) := by decide +kernel
theorem dX9_road_14 : decode cX9_road 14 = .ok (.ifCond .eq 6, 3) := by decide +kernel
theorem dX9_road_17 : decode cX9_road 17 = .ok (.bipush (-4), 2) := by decide +kernel
theorem dX9_road_19 : decode cX9_road 19 = .ok (.ireturn, 1) := by decide +kernel
theorem dX9_road_20 : decode cX9_road 20 = .ok (.iconst 0, 1) := by decide +kernel
theorem dX9_road_21 : decode cX9_road 21 = .ok (.istore_n 2, 1) := by decide +kernel
theorem dX9_road_22 : decode cX9_road 22 = .ok (.iload_n 2, 1) := by decide +kernel
theorem dX9_road_23 : decode cX9_road 23 = .ok (.bipush 36, 2) := by decide +kernel
theorem dX9_road_25 : decode cX9_road 25 = .ok (.if_icmp .ge 33, 3) := by decide +kernel
theorem dX9_road_28 : decode cX9_road 28 = .ok (.aload_n 0, 1) := by decide +kernel
theorem dX9_road_29 : decode cX9_road 29 = .ok (.getfield 7, 3) := by decide +kernel
theorem dX9_road_32 : decode cX9_road 32 = .ok (.iload_n 2, 1) := by decide +kernel
theorem dX9_road_33 : decode cX9_road 33 = .ok (.aload_n 0, 1) := by decide +kernel
theorem dX9_road_34 : decode cX9_road 34 = .ok (.getfield 16, 3) := by decide +kernel
theorem dX9_road_37 : decode cX9_road 37 = .ok (.iload_n 2, 1) := by decide +kernel
theorem dX9_road_38 : decode cX9_road 38 = .ok (.iaload, 1) := by decide +kernel
theorem dX9_road_39 : decode cX9_road 39 = .ok (.iastore, 1) := by decide +kernel
theorem dX9_road_40 : decode cX9_road 40 = .ok (.aload_n 0, 1) := by decide +kernel
theorem dX9_road_41 : decode cX9_road 41 = .ok (.getfield 13, 3) := by decide +kernel
theorem dX9_road_44 : decode cX9_road 44 = .ok (.iload_n 2, 1) := by decide +kernel
theorem dX9_road_45 : decode cX9_road 45 = .ok (.aload_n 0, 1) := by decide +kernel
theorem dX9_road_46 : decode cX9_road 46 = .ok (.getfield 16, 3) := by decide +kernel
theorem dX9_road_49 : decode cX9_road 49 = .ok (.iload_n 2, 1) := by decide +kernel
theorem dX9_road_50 : decode cX9_road 50 = .ok (.iaload, 1) := by decide +kernel
theorem dX9_road_51 : decode cX9_road 51 = .ok (.iastore, 1) := by decide +kernel
theorem dX9_road_52 : decode cX9_road 52 = .ok (.iinc 2 1, 3) := by decide +kernel
theorem dX9_road_55 : decode cX9_road 55 = .ok (.goto (-33), 3) := by decide +kernel
theorem dX9_road_58 : decode cX9_road 58 = .ok (.aload_n 0, 1) := by decide +kernel
theorem dX9_road_59 : decode cX9_road 59 = .ok (.iconst 0, 1) := by decide +kernel
theorem dX9_road_60 : decode cX9_road 60 = .ok (.putfield 58, 3) := by decide +kernel
theorem dX9_road_63 : decode cX9_road 63 = .ok (.aload_n 0, 1) := by decide +kernel
theorem dX9_road_64 : decode cX9_road 64 = .ok (.iconst 0, 1) := by decide +kernel
theorem dX9_road_65 : decode cX9_road 65 = .ok (.putfield 128, 3) := by decide +kernel
theorem dX9_road_68 : decode cX9_road 68 = .ok (.aload_n 0, 1) := by decide +kernel
theorem dX9_road_69 : decode cX9_road 69 = .ok (.iconst 0, 1) := by decide +kernel
theorem dX9_road_70 : decode cX9_road 70 = .ok (.putfield 131, 3) := by decide +kernel
theorem dX9_road_73 : decode cX9_road 73 = .ok (.aload_n 0, 1) := by decide +kernel
theorem dX9_road_74 : decode cX9_road 74 = .ok (.getfield 25, 3) := by decide +kernel
theorem dX9_road_77 : decode cX9_road 77 = .ok (.iconst 0, 1) := by decide +kernel
theorem dX9_road_78 : decode cX9_road 78 = .ok (.iconst 0, 1) := by decide +kernel
theorem dX9_road_79 : decode cX9_road 79 = .ok (.bastore, 1) := by decide +kernel
theorem dX9_road_80 : decode cX9_road 80 = .ok (.aload_n 0, 1) := by decide +kernel
theorem dX9_road_81 : decode cX9_road 81 = .ok (.getfield 25, 3) := by decide +kernel
theorem dX9_road_84 : decode cX9_road 84 = .ok (.iconst 1, 1) := by decide +kernel
theorem dX9_road_85 : decode cX9_road 85 = .ok (.iconst 0, 1) := by decide +kernel
theorem dX9_road_86 : decode cX9_road 86 = .ok (.bastore, 1) := by decide +kernel
theorem dX9_road_87 : decode cX9_road 87 = .ok (.iload_n 1, 1) := by decide +kernel
theorem dX9_road_88 : decode cX9_road 88 = .ok (.ireturn, 1) := by decide +kernel
theorem dX9_feltAt_0 : decode cX9_feltAt 0 = .ok (.aload_n 0, 1) := by decide +kernel
theorem dX9_feltAt_1 : decode cX9_feltAt 1 = .ok (.getfield 7, 3) := by decide +kernel
theorem dX9_feltAt_4 : decode cX9_feltAt 4 = .ok (.iconst 0, 1) := by decide +kernel
theorem dX9_feltAt_5 : decode cX9_feltAt 5 = .ok (.iaload, 1) := by decide +kernel
theorem dX9_feltAt_6 : decode cX9_feltAt 6 = .ok (.istore 4, 2) := by decide +kernel
theorem dX9_feltAt_8 : decode cX9_feltAt 8 = .ok (.aload_n 0, 1) := by decide +kernel
theorem dX9_feltAt_9 : decode cX9_feltAt 9 = .ok (.getfield 7, 3) := by decide +kernel
theorem dX9_feltAt_12 : decode cX9_feltAt 12 = .ok (.iconst 4, 1) := by decide +kernel
theorem dX9_feltAt_13 : decode cX9_feltAt 13 = .ok (.iload_n 1, 1) := by decide +kernel
theorem dX9_feltAt_14 : decode cX9_feltAt 14 = .ok (.iconst 3, 1) := by decide +kernel
theorem dX9_feltAt_15 : decode cX9_feltAt 15 = .ok (.if_icmp .ne 10, 3) := by decide +kernel
theorem dX9_feltAt_18 : decode cX9_feltAt 18 = .ok (.iload 4, 2) := by decide +kernel
theorem dX9_feltAt_20 : decode cX9_feltAt 20 = .ok (.iload_n 3, 1) := by decide +kernel
theorem dX9_feltAt_21 : decode cX9_feltAt 21 = .ok (.isub, 1) := by decide +kernel
theorem dX9_feltAt_22 : decode cX9_feltAt 22 = .ok (.goto 6, 3) := by decide +kernel
theorem dX9_feltAt_25 : decode cX9_feltAt 25 = .ok (.iload_n 3, 1) := by decide +kernel
theorem dX9_feltAt_26 : decode cX9_feltAt 26 = .ok (.iconst 1, 1) := by decide +kernel
theorem dX9_feltAt_27 : decode cX9_feltAt 27 = .ok (.isub, 1) := by decide +kernel
theorem dX9_feltAt_28 : decode cX9_feltAt 28 = .ok (.iadd, 1) := by decide +kernel
theorem dX9_feltAt_29 : decode cX9_feltAt 29 = .ok (.iaload, 1) := by decide +kernel
theorem dX9_feltAt_30 : decode cX9_feltAt 30 = .ok (.istore 5, 2) := by decide +kernel
theorem dX9_feltAt_32 : decode cX9_feltAt 32 = .ok (.iload_n 1, 1) := by decide +kernel
theorem dX9_feltAt_33 : decode cX9_feltAt 33 = .ok (.tableswitch 55 0 2 #[27, 30, 39], 27) := by decide +kernel
theorem dX9_feltAt_60 : decode cX9_feltAt 60 = .ok (.iload 5, 2) := by decide +kernel
theorem dX9_feltAt_62 : decode cX9_feltAt 62 = .ok (.ireturn, 1) := by decide +kernel
theorem dX9_feltAt_63 : decode cX9_feltAt 63 = .ok (.iload 5, 2) := by decide +kernel
theorem dX9_feltAt_65 : decode cX9_feltAt 65 = .ok (.iload_n 3, 1) := by decide +kernel
theorem dX9_feltAt_66 : decode cX9_feltAt 66 = .ok (.iconst 1, 1) := by decide +kernel
theorem dX9_feltAt_67 : decode cX9_feltAt 67 = .ok (.isub, 1) := by decide +kernel
theorem dX9_feltAt_68 : decode cX9_feltAt 68 = .ok (.iload_n 2, 1) := by decide +kernel
theorem dX9_feltAt_69 : decode cX9_feltAt 69 = .ok (.idiv, 1) := by decide +kernel
theorem dX9_feltAt_70 : decode cX9_feltAt 70 = .ok (.iadd, 1) := by decide +kernel
theorem dX9_feltAt_71 : decode cX9_feltAt 71 = .ok (.ireturn, 1) := by decide +kernel
theorem dX9_feltAt_72 : decode cX9_feltAt 72 = .ok (.iload_n 3, 1) := by decide +kernel
theorem dX9_feltAt_73 : decode cX9_feltAt 73 = .ok (.iload_n 2, 1) := by decide +kernel
theorem dX9_feltAt_74 : decode cX9_feltAt 74 = .ok (.irem, 1) := by decide +kernel
theorem dX9_feltAt_75 : decode cX9_feltAt 75 = .ok (.ifCond .ne 10, 3) := by decide +kernel
theorem dX9_feltAt_78 : decode cX9_feltAt 78 = .ok (.iconst 2, 1) := by decide +kernel
theorem dX9_feltAt_79 : decode cX9_feltAt 79 = .ok (.iload 5, 2) := by decide +kernel
theorem dX9_feltAt_81 : decode cX9_feltAt 81 = .ok (.imul, 1) := by decide +kernel
theorem dX9_feltAt_82 : decode cX9_feltAt 82 = .ok (.goto 5, 3) := by decide +kernel
theorem dX9_feltAt_85 : decode cX9_feltAt 85 = .ok (.iload 5, 2) := by decide +kernel
theorem dX9_feltAt_87 : decode cX9_feltAt 87 = .ok (.ireturn, 1) := by decide +kernel
theorem dX9_feltAt_88 : decode cX9_feltAt 88 = .ok (.iload 5, 2) := by decide +kernel
theorem dX9_feltAt_90 : decode cX9_feltAt 90 = .ok (.iload_n 2, 1) := by decide +kernel
theorem dX9_feltAt_91 : decode cX9_feltAt 91 = .ok (.iadd, 1) := by decide +kernel
theorem dX9_feltAt_92 : decode cX9_feltAt 92 = .ok (.ireturn, 1) := by decide +kernel
theorem dX9_feltInAll_0 : decode cX9_feltInAll 0 = .ok (.iconst 0, 1) := by decide +kernel
theorem dX9_feltInAll_1 : decode cX9_feltInAll 1 = .ok (.istore_n 2, 1) := by decide +kernel
theorem dX9_feltInAll_2 : decode cX9_feltInAll 2 = .ok (.iconst 1, 1) := by decide +kernel
theorem dX9_feltInAll_3 : decode cX9_feltInAll 3 = .ok (.istore_n 3, 1) := by decide +kernel
theorem dX9_feltInAll_4 : decode cX9_feltInAll 4 = .ok (.iload_n 3, 1) := by decide +kernel
theorem dX9_feltInAll_5 : decode cX9_feltInAll 5 = .ok (.aload_n 0, 1) := by decide +kernel
theorem dX9_feltInAll_6 : decode cX9_feltInAll 6 = .ok (.getfield 7, 3) := by decide +kernel
theorem dX9_feltInAll_9 : decode cX9_feltInAll 9 = .ok (.iconst 0, 1) := by decide +kernel
theorem dX9_feltInAll_10 : decode cX9_feltInAll 10 = .ok (.iaload, 1) := by decide +kernel
theorem dX9_feltInAll_11 : decode cX9_feltInAll 11 = .ok (.if_icmp .gt 35, 3) := by decide +kernel
theorem dX9_feltInAll_14 : decode cX9_feltInAll 14 = .ok (.iload_n 2, 1) := by decide +kernel
theorem dX9_feltInAll_15 : decode cX9_feltInAll 15 = .ok (.aload_n 0, 1) := by decide +kernel
theorem dX9_feltInAll_16 : decode cX9_feltInAll 16 = .ok (.aload_n 0, 1) := by decide +kernel
theorem dX9_feltInAll_17 : decode cX9_feltInAll 17 = .ok (.getfield 7, 3) := by decide +kernel
theorem dX9_feltInAll_20 : decode cX9_feltInAll 20 = .ok (.bipush 24, 2) := by decide +kernel
theorem dX9_feltInAll_22 : decode cX9_feltInAll 22 = .ok (.iload_n 1, 1) := by decide +kernel
theorem dX9_feltInAll_23 : decode cX9_feltInAll 23 = .ok (.iadd, 1) := by decide +kernel
theorem dX9_feltInAll_24 : decode cX9_feltInAll 24 = .ok (.iaload, 1) := by decide +kernel
theorem dX9_feltInAll_25 : decode cX9_feltInAll 25 = .ok (.aload_n 0, 1) := by decide +kernel
theorem dX9_feltInAll_26 : decode cX9_feltInAll 26 = .ok (.getfield 7, 3) := by decide +kernel
theorem dX9_feltInAll_29 : decode cX9_feltInAll 29 = .ok (.bipush 30, 2) := by decide +kernel
theorem dX9_feltInAll_31 : decode cX9_feltInAll 31 = .ok (.iload_n 1, 1) := by decide +kernel
theorem dX9_feltInAll_32 : decode cX9_feltInAll 32 = .ok (.iadd, 1) := by decide +kernel
theorem dX9_feltInAll_33 : decode cX9_feltInAll 33 = .ok (.iaload, 1) := by decide +kernel
theorem dX9_feltInAll_34 : decode cX9_feltInAll 34 = .ok (.iload_n 3, 1) := by decide +kernel
theorem dX9_feltInAll_35 : decode cX9_feltInAll 35 = .ok (.invokevirtual 134, 3) := by decide +kernel
theorem dX9_feltInAll_38 : decode cX9_feltInAll 38 = .ok (.iadd, 1) := by decide +kernel
theorem dX9_feltInAll_39 : decode cX9_feltInAll 39 = .ok (.istore_n 2, 1) := by decide +kernel
theorem dX9_feltInAll_40 : decode cX9_feltInAll 40 = .ok (.iinc 3 1, 3) := by decide +kernel
theorem dX9_feltInAll_43 : decode cX9_feltInAll 43 = .ok (.goto (-39), 3) := by decide +kernel
theorem dX9_feltInAll_46 : decode cX9_feltInAll 46 = .ok (.iload_n 2, 1) := by decide +kernel
theorem dX9_feltInAll_47 : decode cX9_feltInAll 47 = .ok (.ireturn, 1) := by decide +kernel
theorem dX9_stoneBy_0 : decode cX9_stoneBy 0 = .ok (.iconst 0, 1) := by decide +kernel
theorem dX9_stoneBy_1 : decode cX9_stoneBy 1 = .ok (.istore 5, 2) := by decide +kernel
theorem dX9_stoneBy_3 : decode cX9_stoneBy 3 = .ok (.iconst 1, 1) := by decide +kernel
theorem dX9_stoneBy_4 : decode cX9_stoneBy 4 = .ok (.istore 6, 2) := by decide +kernel
theorem dX9_stoneBy_6 : decode cX9_stoneBy 6 = .ok (.iload 6, 2) := by decide +kernel
theorem dX9_stoneBy_8 : decode cX9_stoneBy 8 = .ok (.aload_n 0, 1) := by decide +kernel
theorem dX9_stoneBy_9 : decode cX9_stoneBy 9 = .ok (.getfield 7, 3) := by decide +kernel
theorem dX9_stoneBy_12 : decode cX9_stoneBy 12 = .ok (.iconst 0, 1) := by decide +kernel
theorem dX9_stoneBy_13 : decode cX9_stoneBy 13 = .ok (.iaload, 1) := by decide +kernel
theorem dX9_stoneBy_14 : decode cX9_stoneBy 14 = .ok (.if_icmp .gt 51, 3) := by decide +kernel
theorem dX9_stoneBy_17 : decode cX9_stoneBy 17 = .ok (.iload 5, 2) := by decide +kernel
theorem dX9_stoneBy_19 : decode cX9_stoneBy 19 = .ok (.aload_n 0, 1) := by decide +kernel
theorem dX9_stoneBy_20 : decode cX9_stoneBy 20 = .ok (.iload_n 1, 1) := by decide +kernel
theorem dX9_stoneBy_21 : decode cX9_stoneBy 21 = .ok (.iload_n 2, 1) := by decide +kernel
theorem dX9_stoneBy_22 : decode cX9_stoneBy 22 = .ok (.iload 6, 2) := by decide +kernel
theorem dX9_stoneBy_24 : decode cX9_stoneBy 24 = .ok (.invokevirtual 134, 3) := by decide +kernel
theorem dX9_stoneBy_27 : decode cX9_stoneBy 27 = .ok (.iadd, 1) := by decide +kernel
theorem dX9_stoneBy_28 : decode cX9_stoneBy 28 = .ok (.istore 5, 2) := by decide +kernel
theorem dX9_stoneBy_30 : decode cX9_stoneBy 30 = .ok (.iload 5, 2) := by decide +kernel
theorem dX9_stoneBy_32 : decode cX9_stoneBy 32 = .ok (.iload_n 3, 1) := by decide +kernel
theorem dX9_stoneBy_33 : decode cX9_stoneBy 33 = .ok (.iload 4, 2) := by decide +kernel
theorem dX9_stoneBy_35 : decode cX9_stoneBy 35 = .ok (.imul, 1) := by decide +kernel
theorem dX9_stoneBy_36 : decode cX9_stoneBy 36 = .ok (.if_icmp .lt 23, 3) := by decide +kernel
theorem dX9_stoneBy_39 : decode cX9_stoneBy 39 = .ok (.iload_n 1, 1) := by decide +kernel
theorem dX9_stoneBy_40 : decode cX9_stoneBy 40 = .ok (.iconst 3, 1) := by decide +kernel
theorem dX9_stoneBy_41 : decode cX9_stoneBy 41 = .ok (.if_icmp .ne 15, 3) := by decide +kernel
theorem dX9_stoneBy_44 : decode cX9_stoneBy 44 = .ok (.aload_n 0, 1) := by decide +kernel
theorem dX9_stoneBy_45 : decode cX9_stoneBy 45 = .ok (.getfield 7, 3) := by decide +kernel
theorem dX9_stoneBy_48 : decode cX9_stoneBy 48 = .ok (.iconst 0, 1) := by decide +kernel
theorem dX9_stoneBy_49 : decode cX9_stoneBy 49 = .ok (.iaload, 1) := by decide +kernel
theorem dX9_stoneBy_50 : decode cX9_stoneBy 50 = .ok (.iload 6, 2) := by decide +kernel
theorem dX9_stoneBy_52 : decode cX9_stoneBy 52 = .ok (.isub, 1) := by decide +kernel
theorem dX9_stoneBy_53 : decode cX9_stoneBy 53 = .ok (.goto 5, 3) := by decide +kernel
theorem dX9_stoneBy_56 : decode cX9_stoneBy 56 = .ok (.iload 6, 2) := by decide +kernel
theorem dX9_stoneBy_58 : decode cX9_stoneBy 58 = .ok (.ireturn, 1) := by decide +kernel
theorem dX9_stoneBy_59 : decode cX9_stoneBy 59 = .ok (.iinc 6 1, 3) := by decide +kernel
theorem dX9_stoneBy_62 : decode cX9_stoneBy 62 = .ok (.goto (-56), 3) := by decide +kernel
theorem dX9_stoneBy_65 : decode cX9_stoneBy 65 = .ok (.iconst (-1), 1) := by decide +kernel
theorem dX9_stoneBy_66 : decode cX9_stoneBy 66 = .ok (.ireturn, 1) := by decide +kernel
theorem dX9_stoneOf_0 : decode cX9_stoneOf 0 = .ok (.aload_n 0, 1) := by decide +kernel
theorem dX9_stoneOf_1 : decode cX9_stoneOf 1 = .ok (.aload_n 0, 1) := by decide +kernel
theorem dX9_stoneOf_2 : decode cX9_stoneOf 2 = .ok (.getfield 7, 3) := by decide +kernel
theorem dX9_stoneOf_5 : decode cX9_stoneOf 5 = .ok (.bipush 24, 2) := by decide +kernel
theorem dX9_stoneOf_7 : decode cX9_stoneOf 7 = .ok (.iload_n 1, 1) := by decide +kernel
theorem dX9_stoneOf_8 : decode cX9_stoneOf 8 = .ok (.iadd, 1) := by decide +kernel
theorem dX9_stoneOf_9 : decode cX9_stoneOf 9 = .ok (.iaload, 1) := by decide +kernel
theorem dX9_stoneOf_10 : decode cX9_stoneOf 10 = .ok (.aload_n 0, 1) := by decide +kernel
theorem dX9_stoneOf_11 : decode cX9_stoneOf 11 = .ok (.getfield 7, 3) := by decide +kernel
theorem dX9_stoneOf_14 : decode cX9_stoneOf 14 = .ok (.bipush 30, 2) := by decide +kernel
theorem dX9_stoneOf_16 : decode cX9_stoneOf 16 = .ok (.iload_n 1, 1) := by decide +kernel
theorem dX9_stoneOf_17 : decode cX9_stoneOf 17 = .ok (.iadd, 1) := by decide +kernel
theorem dX9_stoneOf_18 : decode cX9_stoneOf 18 = .ok (.iaload, 1) := by decide +kernel
theorem dX9_stoneOf_19 : decode cX9_stoneOf 19 = .ok (.iload_n 2, 1) := by decide +kernel
theorem dX9_stoneOf_20 : decode cX9_stoneOf 20 = .ok (.aload_n 0, 1) := by decide +kernel
theorem dX9_stoneOf_21 : decode cX9_stoneOf 21 = .ok (.getfield 7, 3) := by decide +kernel
theorem dX9_stoneOf_24 : decode cX9_stoneOf 24 = .ok (.iconst 1, 1) := by decide +kernel
theorem dX9_stoneOf_25 : decode cX9_stoneOf 25 = .ok (.iaload, 1) := by decide +kernel
theorem dX9_stoneOf_26 : decode cX9_stoneOf 26 = .ok (.invokevirtual 138, 3) := by decide +kernel
theorem dX9_stoneOf_29 : decode cX9_stoneOf 29 = .ok (.ireturn, 1) := by decide +kernel
theorem dX9_walker_0 : decode cX9_walker 0 = .ok (.aload_n 0, 1) := by decide +kernel
theorem dX9_walker_1 : decode cX9_walker 1 = .ok (.iconst 0, 1) := by decide +kernel
theorem dX9_walker_2 : decode cX9_walker 2 = .ok (.putfield 48, 3) := by decide +kernel
theorem dX9_walker_5 : decode cX9_walker 5 = .ok (.aload_n 0, 1) := by decide +kernel
theorem dX9_walker_6 : decode cX9_walker 6 = .ok (.iload_n 1, 1) := by decide +kernel
theorem dX9_walker_7 : decode cX9_walker 7 = .ok (.invokevirtual 142, 3) := by decide +kernel
theorem dX9_walker_10 : decode cX9_walker 10 = .ok (.ifCond .ne 6, 3) := by decide +kernel
theorem dX9_walker_13 : decode cX9_walker 13 = .ok (.bipush (-2), 2) := by decide +kernel
theorem dX9_walker_15 : decode cX9_walker 15 = .ok (.ireturn, 1) := by decide +kernel
theorem dX9_walker_16 : decode cX9_walker 16 = .ok (.iconst 0, 1) := by decide +kernel
theorem dX9_walker_17 : decode cX9_walker 17 = .ok (.istore_n 3, 1) := by decide +kernel
theorem dX9_walker_18 : decode cX9_walker 18 = .ok (.iload_n 2, 1) := by decide +kernel
theorem dX9_walker_19 : decode cX9_walker 19 = .ok (.tableswitch 107 0 4 #[33, 43, 53, 64, 101], 33) := by decide +kernel
theorem dX9_walker_52 : decode cX9_walker 52 = .ok (.aload_n 0, 1) := by decide +kernel
theorem dX9_walker_53 : decode cX9_walker 53 = .ok (.getfield 7, 3) := by decide +kernel
theorem dX9_walker_56 : decode cX9_walker 56 = .ok (.bipush 24, 2) := by decide +kernel
theorem dX9_walker_58 : decode cX9_walker 58 = .ok (.iload_n 1, 1) := by decide +kernel
theorem dX9_walker_59 : decode cX9_walker 59 = .ok (.iadd, 1) := by decide +kernel
theorem dX9_walker_60 : decode cX9_walker 60 = .ok (.iaload, 1) := by decide +kernel
theorem dX9_walker_61 : decode cX9_walker 61 = .ok (.ireturn, 1) := by decide +kernel
theorem dX9_walker_62 : decode cX9_walker 62 = .ok (.aload_n 0, 1) := by decide +kernel
theorem dX9_walker_63 : decode cX9_walker 63 = .ok (.getfield 7, 3) := by decide +kernel
theorem dX9_walker_66 : decode cX9_walker 66 = .ok (.bipush 30, 2) := by decide +kernel
theorem dX9_walker_68 : decode cX9_walker 68 = .ok (.iload_n 1, 1) := by decide +kernel
theorem dX9_walker_69 : decode cX9_walker 69 = .ok (.iadd, 1) := by decide +kernel
theorem dX9_walker_70 : decode cX9_walker 70 = .ok (.iaload, 1) := by decide +kernel
theorem dX9_walker_71 : decode cX9_walker 71 = .ok (.ireturn, 1) := by decide +kernel
theorem dX9_walker_72 : decode cX9_walker 72 = .ok (.aload_n 0, 1) := by decide +kernel
theorem dX9_walker_73 : decode cX9_walker 73 = .ok (.getfield 7, 3) := by decide +kernel
theorem dX9_walker_76 : decode cX9_walker 76 = .ok (.iconst 3, 1) := by decide +kernel
theorem dX9_walker_77 : decode cX9_walker 77 = .ok (.iaload, 1) := by decide +kernel
theorem dX9_walker_78 : decode cX9_walker 78 = .ok (.iload_n 1, 1) := by decide +kernel
theorem dX9_walker_79 : decode cX9_walker 79 = .ok (.ishr, 1) := by decide +kernel
theorem dX9_walker_80 : decode cX9_walker 80 = .ok (.iconst 1, 1) := by decide +kernel
theorem dX9_walker_81 : decode cX9_walker 81 = .ok (.iand, 1) := by decide +kernel
theorem dX9_walker_82 : decode cX9_walker 82 = .ok (.ireturn, 1) := by decide +kernel
theorem dX9_walker_83 : decode cX9_walker 83 = .ok (.iconst 1, 1) := by decide +kernel
theorem dX9_walker_84 : decode cX9_walker 84 = .ok (.istore 4, 2) := by decide +kernel
theorem dX9_walker_86 : decode cX9_walker 86 = .ok (.iload 4, 2) := by decide +kernel
theorem dX9_walker_88 : decode cX9_walker 88 = .ok (.bipush 9, 2) := by decide +kernel
theorem dX9_walker_90 : decode cX9_walker 90 = .ok (.if_icmp .ge 28, 3) := by decide +kernel
theorem dX9_walker_93 : decode cX9_walker 93 = .ok (.iload_n 3, 1) := by decide +kernel
theorem dX9_walker_94 : decode cX9_walker 94 = .ok (.aload_n 0, 1) := by decide +kernel
theorem dX9_walker_95 : decode cX9_walker 95 = .ok (.iload_n 1, 1) := by decide +kernel
theorem dX9_walker_96 : decode cX9_walker 96 = .ok (.iload 4, 2) := by decide +kernel
theorem dX9_walker_98 : decode cX9_walker 98 = .ok (.invokevirtual 145, 3) := by decide +kernel
theorem dX9_walker_101 : decode cX9_walker 101 = .ok (.iconst (-1), 1) := by decide +kernel
theorem dX9_walker_102 : decode cX9_walker 102 = .ok (.if_icmp .ne 7, 3) := by decide +kernel
theorem dX9_walker_105 : decode cX9_walker 105 = .ok (.iconst 0, 1) := by decide +kernel
theorem dX9_walker_106 : decode cX9_walker 106 = .ok (.goto 4, 3) := by decide +kernel
theorem dX9_walker_109 : decode cX9_walker 109 = .ok (.iconst 1, 1) := by decide +kernel
theorem dX9_walker_110 : decode cX9_walker 110 = .ok (.iadd, 1) := by decide +kernel
theorem dX9_walker_111 : decode cX9_walker 111 = .ok (.istore_n 3, 1) := by decide +kernel
theorem dX9_walker_112 : decode cX9_walker 112 = .ok (.iinc 4 1, 3) := by decide +kernel
theorem dX9_walker_115 : decode cX9_walker 115 = .ok (.goto (-29), 3) := by decide +kernel
theorem dX9_walker_118 : decode cX9_walker 118 = .ok (.iload_n 3, 1) := by decide +kernel
theorem dX9_walker_119 : decode cX9_walker 119 = .ok (.ireturn, 1) := by decide +kernel
theorem dX9_walker_120 : decode cX9_walker 120 = .ok (.aload_n 0, 1) := by decide +kernel
theorem dX9_walker_121 : decode cX9_walker 121 = .ok (.iload_n 1, 1) := by decide +kernel
theorem dX9_walker_122 : decode cX9_walker 122 = .ok (.invokevirtual 148, 3) := by decide +kernel
theorem dX9_walker_125 : decode cX9_walker 125 = .ok (.ireturn, 1) := by decide +kernel
theorem dX9_walker_126 : decode cX9_walker 126 = .ok (.bipush (-3), 2) := by decide +kernel
theorem dX9_walker_128 : decode cX9_walker 128 = .ok (.ireturn, 1) := by decide +kernel
theorem dX9_as_0 : decode cX9_as 0 = .ok (.aload_n 0, 1) := by decide +kernel
theorem dX9_as_1 : decode cX9_as 1 = .ok (.iconst 0, 1) := by decide +kernel
theorem dX9_as_2 : decode cX9_as 2 = .ok (.putfield 48, 3) := by decide +kernel
theorem dX9_as_5 : decode cX9_as 5 = .ok (.aload_n 0, 1) := by decide +kernel
theorem dX9_as_6 : decode cX9_as 6 = .ok (.iload_n 1, 1) := by decide +kernel
theorem dX9_as_7 : decode cX9_as 7 = .ok (.invokevirtual 142, 3) := by decide +kernel
theorem dX9_as_10 : decode cX9_as 10 = .ok (.ifCond .ne 6, 3) := by decide +kernel
theorem dX9_as_13 : decode cX9_as 13 = .ok (.bipush (-2), 2) := by decide +kernel
theorem dX9_as_15 : decode cX9_as 15 = .ok (.ireturn, 1) := by decide +kernel
theorem dX9_as_16 : decode cX9_as 16 = .ok (.iload_n 2, 1) := by decide +kernel
theorem dX9_as_17 : decode cX9_as 17 = .ok (.i2l, 1) := by decide +kernel
theorem dX9_as_18 : decode cX9_as 18 = .ok (.lconst 0, 1) := by decide +kernel
theorem dX9_as_19 : decode cX9_as 19 = .ok (.ldc2_w 152, 3) := by decide +kernel
theorem dX9_as_22 : decode cX9_as 22 = .ok (.invokestatic 52, 3) := by decide +kernel
theorem dX9_as_25 : decode cX9_as 25 = .ok (.ifCond .ne 6, 3) := by decide +kernel
theorem dX9_as_28 : decode cX9_as 28 = .ok (.bipush (-3), 2) := by decide +kernel
theorem dX9_as_30 : decode cX9_as 30 = .ok (.ireturn, 1) := by decide +kernel
theorem dX9_as_31 : decode cX9_as 31 = .ok (.aload_n 0, 1) := by decide +kernel
theorem dX9_as_32 : decode cX9_as 32 = .ok (.getfield 7, 3) := by decide +kernel
theorem dX9_as_35 : decode cX9_as 35 = .ok (.bipush 24, 2) := by decide +kernel
theorem dX9_as_37 : decode cX9_as 37 = .ok (.iload_n 1, 1) := by decide +kernel
theorem dX9_as_38 : decode cX9_as 38 = .ok (.iadd, 1) := by decide +kernel
theorem dX9_as_39 : decode cX9_as 39 = .ok (.iaload, 1) := by decide +kernel
theorem dX9_as_40 : decode cX9_as 40 = .ok (.istore_n 3, 1) := by decide +kernel
theorem dX9_as_41 : decode cX9_as 41 = .ok (.iload_n 2, 1) := by decide +kernel
theorem dX9_as_42 : decode cX9_as 42 = .ok (.ifCond .eq 20, 3) := by decide +kernel
theorem dX9_as_45 : decode cX9_as 45 = .ok (.iload_n 2, 1) := by decide +kernel
theorem dX9_as_46 : decode cX9_as 46 = .ok (.iload_n 3, 1) := by decide +kernel
theorem dX9_as_47 : decode cX9_as 47 = .ok (.iconst 1, 1) := by decide +kernel
theorem dX9_as_48 : decode cX9_as 48 = .ok (.iadd, 1) := by decide +kernel
theorem dX9_as_49 : decode cX9_as 49 = .ok (.if_icmp .eq 13, 3) := by decide +kernel
theorem dX9_as_52 : decode cX9_as 52 = .ok (.iload_n 2, 1) := by decide +kernel
theorem dX9_as_53 : decode cX9_as 53 = .ok (.iconst 1, 1) := by decide +kernel
theorem dX9_as_54 : decode cX9_as 54 = .ok (.if_icmp .ne 12, 3) := by decide +kernel
theorem dX9_as_57 : decode cX9_as 57 = .ok (.iload_n 3, 1) := by decide +kernel
theorem dX9_as_58 : decode cX9_as 58 = .ok (.iconst 3, 1) := by decide +kernel
theorem dX9_as_59 : decode cX9_as 59 = .ok (.if_icmp .ge 7, 3) := by decide +kernel
theorem dX9_as_62 : decode cX9_as 62 = .ok (.iconst 1, 1) := by decide +kernel
theorem dX9_as_63 : decode cX9_as 63 = .ok (.goto 4, 3) := by decide +kernel
theorem dX9_as_66 : decode cX9_as 66 = .ok (.iconst 0, 1) := by decide +kernel
theorem dX9_as_67 : decode cX9_as 67 = .ok (.istore 4, 2) := by decide +kernel
theorem dX9_as_69 : decode cX9_as 69 = .ok (.iload 4, 2) := by decide +kernel
theorem dX9_as_71 : decode cX9_as 71 = .ok (.ifCond .eq 26, 3) := by decide +kernel
theorem dX9_as_74 : decode cX9_as 74 = .ok (.aload_n 0, 1) := by decide +kernel
theorem dX9_as_75 : decode cX9_as 75 = .ok (.iload_n 3, 1) := by decide +kernel
theorem dX9_as_76 : decode cX9_as 76 = .ok (.aload_n 0, 1) := by decide +kernel
theorem dX9_as_77 : decode cX9_as 77 = .ok (.getfield 7, 3) := by decide +kernel
theorem dX9_as_80 : decode cX9_as 80 = .ok (.bipush 30, 2) := by decide +kernel
theorem dX9_as_82 : decode cX9_as 82 = .ok (.iload_n 1, 1) := by decide +kernel
theorem dX9_as_83 : decode cX9_as 83 = .ok (.iadd, 1) := by decide +kernel
theorem dX9_as_84 : decode cX9_as 84 = .ok (.iaload, 1) := by decide +kernel
theorem dX9_as_85 : decode cX9_as 85 = .ok (.aload_n 0, 1) := by decide +kernel
theorem dX9_as_86 : decode cX9_as 86 = .ok (.getfield 7, 3) := by decide +kernel
theorem dX9_as_89 : decode cX9_as 89 = .ok (.iconst 0, 1) := by decide +kernel
theorem dX9_as_90 : decode cX9_as 90 = .ok (.iaload, 1) := by decide +kernel
theorem dX9_as_91 : decode cX9_as 91 = .ok (.invokevirtual 134, 3) := by decide +kernel
theorem dX9_as_94 : decode cX9_as 94 = .ok (.goto 5, 3) := by decide +kernel
theorem dX9_as_97 : decode cX9_as 97 = .ok (.bipush (-4), 2) := by decide +kernel
theorem dX9_as_99 : decode cX9_as 99 = .ok (.ireturn, 1) := by decide +kernel
theorem dX9_step_0 : decode cX9_step 0 = .ok (.aload_n 0, 1) := by decide +kernel
theorem dX9_step_1 : decode cX9_step 1 = .ok (.iconst 0, 1) := by decide +kernel
theorem dX9_step_2 : decode cX9_step 2 = .ok (.putfield 48, 3) := by decide +kernel
theorem dX9_step_5 : decode cX9_step 5 = .ok (.iload_n 1, 1) := by decide +kernel
theorem dX9_step_6 : decode cX9_step 6 = .ok (.i2l, 1) := by decide +kernel
theorem dX9_step_7 : decode cX9_step 7 = .ok (.lconst 1, 1) := by decide +kernel
theorem dX9_step_8 : decode cX9_step 8 = .ok (.aload_n 0, 1) := by decide +kernel
theorem dX9_step_9 : decode cX9_step 9 = .ok (.getfield 7, 3) := by decide +kernel
theorem dX9_step_12 : decode cX9_step 12 = .ok (.iconst 0, 1) := by decide +kernel
theorem dX9_step_13 : decode cX9_step 13 = .ok (.iaload, 1) := by decide +kernel
theorem dX9_step_14 : decode cX9_step 14 = .ok (.i2l, 1) := by decide +kernel
theorem dX9_step_15 : decode cX9_step 15 = .ok (.invokestatic 52, 3) := by decide +kernel
theorem dX9_step_18 : decode cX9_step 18 = .ok (.ifCond .eq 16, 3) := by decide +kernel
theorem dX9_step_21 : decode cX9_step 21 = .ok (.aload_n 0, 1) := by decide +kernel
theorem dX9_step_22 : decode cX9_step 22 = .ok (.getfield 7, 3) := by decide +kernel
theorem dX9_step_25 : decode cX9_step 25 = .ok (.iconst 4, 1) := by decide +kernel
theorem dX9_step_26 : decode cX9_step 26 = .ok (.iload_n 1, 1) := by decide +kernel
theorem dX9_step_27 : decode cX9_step 27 = .ok (.iadd, 1) := by decide +kernel
theorem dX9_step_28 : decode cX9_step 28 = .ok (.iconst 1, 1) := by decide +kernel
theorem dX9_step_29 : decode cX9_step 29 = .ok (.isub, 1) := by decide +kernel
theorem dX9_step_30 : decode cX9_step 30 = .ok (.iaload, 1) := by decide +kernel
theorem dX9_step_31 : decode cX9_step 31 = .ok (.goto 5, 3) := by decide +kernel
theorem dX9_step_34 : decode cX9_step 34 = .ok (.bipush (-3), 2) := by decide +kernel
theorem dX9_step_36 : decode cX9_step 36 = .ok (.ireturn, 1) := by decide +kernel
theorem dX9_keepAct_0 : decode cX9_keepAct 0 = .ok (.aload_n 0, 1) := by decide +kernel
theorem dX9_keepAct_1 : decode cX9_keepAct 1 = .ok (.getfield 131, 3) := by decide +kernel
theorem dX9_keepAct_4 : decode cX9_keepAct 4 = .ok (.bipush 8, 2) := by decide +kernel
theorem dX9_keepAct_6 : decode cX9_keepAct 6 = .ok (.if_icmp .ne 43, 3) := by decide +kernel
theorem dX9_keepAct_9 : decode cX9_keepAct 9 = .ok (.iconst 0, 1) := by decide +kernel
theorem dX9_keepAct_10 : decode cX9_keepAct 10 = .ok (.istore_n 1, 1) := by decide +kernel
theorem dX9_keepAct_11 : decode cX9_keepAct 11 = .ok (.iload_n 1, 1) := by decide +kernel
theorem dX9_keepAct_12 : decode cX9_keepAct 12 = .ok (.sipush 252, 3) := by decide +kernel
theorem dX9_keepAct_15 : decode cX9_keepAct 15 = .ok (.if_icmp .ge 24, 3) := by decide +kernel
theorem dX9_keepAct_18 : decode cX9_keepAct 18 = .ok (.aload_n 0, 1) := by decide +kernel
theorem dX9_keepAct_19 : decode cX9_keepAct 19 = .ok (.getfield 19, 3) := by decide +kernel
theorem dX9_keepAct_22 : decode cX9_keepAct 22 = .ok (.iload_n 1, 1) := by decide +kernel
theorem dX9_keepAct_23 : decode cX9_keepAct 23 = .ok (.aload_n 0, 1) := by decide +kernel
theorem dX9_keepAct_24 : decode cX9_keepAct 24 = .ok (.getfield 19, 3) := by decide +kernel
theorem dX9_keepAct_27 : decode cX9_keepAct 27 = .ok (.iload_n 1, 1) := by decide +kernel
theorem dX9_keepAct_28 : decode cX9_keepAct 28 = .ok (.bipush 36, 2) := by decide +kernel
theorem dX9_keepAct_30 : decode cX9_keepAct 30 = .ok (.iadd, 1) := by decide +kernel
theorem dX9_keepAct_31 : decode cX9_keepAct 31 = .ok (.iaload, 1) := by decide +kernel
theorem dX9_keepAct_32 : decode cX9_keepAct 32 = .ok (.iastore, 1) := by decide +kernel
theorem dX9_keepAct_33 : decode cX9_keepAct 33 = .ok (.iinc 1 1, 3) := by decide +kernel
theorem dX9_keepAct_36 : decode cX9_keepAct 36 = .ok (.goto (-25), 3) := by decide +kernel
theorem dX9_keepAct_39 : decode cX9_keepAct 39 = .ok (.aload_n 0, 1) := by decide +kernel
theorem dX9_keepAct_40 : decode cX9_keepAct 40 = .ok (.dup, 1) := by decide +kernel
theorem dX9_keepAct_41 : decode cX9_keepAct 41 = .ok (.getfield 131, 3) := by decide +kernel
theorem dX9_keepAct_44 : decode cX9_keepAct 44 = .ok (.iconst 1, 1) := by decide +kernel
theorem dX9_keepAct_45 : decode cX9_keepAct 45 = .ok (.isub, 1) := by decide +kernel
theorem dX9_keepAct_46 : decode cX9_keepAct 46 = .ok (.putfield 131, 3) := by decide +kernel
theorem dX9_keepAct_49 : decode cX9_keepAct 49 = .ok (.iconst 0, 1) := by decide +kernel
theorem dX9_keepAct_50 : decode cX9_keepAct 50 = .ok (.istore_n 1, 1) := by decide +kernel
theorem dX9_keepAct_51 : decode cX9_keepAct 51 = .ok (.iload_n 1, 1) := by decide +kernel
theorem dX9_keepAct_52 : decode cX9_keepAct 52 = .ok (.bipush 36, 2) := by decide +kernel
theorem dX9_keepAct_54 : decode cX9_keepAct 54 = .ok (.if_icmp .ge 29, 3) := by decide +kernel
theorem dX9_keepAct_57 : decode cX9_keepAct 57 = .ok (.aload_n 0, 1) := by decide +kernel
theorem dX9_keepAct_58 : decode cX9_keepAct 58 = .ok (.getfield 19, 3) := by decide +kernel
theorem dX9_keepAct_61 : decode cX9_keepAct 61 = .ok (.bipush 36, 2) := by decide +kernel
theorem dX9_keepAct_63 : decode cX9_keepAct 63 = .ok (.aload_n 0, 1) := by decide +kernel
theorem dX9_keepAct_64 : decode cX9_keepAct 64 = .ok (.getfield 131, 3) := by decide +kernel
theorem dX9_keepAct_67 : decode cX9_keepAct 67 = .ok (.imul, 1) := by decide +kernel
theorem dX9_keepAct_68 : decode cX9_keepAct 68 = .ok (.iload_n 1, 1) := by decide +kernel
theorem dX9_keepAct_69 : decode cX9_keepAct 69 = .ok (.iadd, 1) := by decide +kernel
theorem dX9_keepAct_70 : decode cX9_keepAct 70 = .ok (.aload_n 0, 1) := by decide +kernel
theorem dX9_keepAct_71 : decode cX9_keepAct 71 = .ok (.getfield 7, 3) := by decide +kernel
theorem dX9_keepAct_74 : decode cX9_keepAct 74 = .ok (.iload_n 1, 1) := by decide +kernel
theorem dX9_keepAct_75 : decode cX9_keepAct 75 = .ok (.iaload, 1) := by decide +kernel
theorem dX9_keepAct_76 : decode cX9_keepAct 76 = .ok (.iastore, 1) := by decide +kernel
theorem dX9_keepAct_77 : decode cX9_keepAct 77 = .ok (.iinc 1 1, 3) := by decide +kernel
theorem dX9_keepAct_80 : decode cX9_keepAct 80 = .ok (.goto (-29), 3) := by decide +kernel
theorem dX9_keepAct_83 : decode cX9_keepAct 83 = .ok (.aload_n 0, 1) := by decide +kernel
theorem dX9_keepAct_84 : decode cX9_keepAct 84 = .ok (.dup, 1) := by decide +kernel
theorem dX9_keepAct_85 : decode cX9_keepAct 85 = .ok (.getfield 131, 3) := by decide +kernel
theorem dX9_keepAct_88 : decode cX9_keepAct 88 = .ok (.iconst 1, 1) := by decide +kernel
theorem dX9_keepAct_89 : decode cX9_keepAct 89 = .ok (.iadd, 1) := by decide +kernel
theorem dX9_keepAct_90 : decode cX9_keepAct 90 = .ok (.putfield 131, 3) := by decide +kernel
theorem dX9_keepAct_93 : decode cX9_keepAct 93 = .ok (.return_, 1) := by decide +kernel
theorem dX9_walks_0 : decode cX9_walks 0 = .ok (.aload_n 0, 1) := by decide +kernel
theorem dX9_walks_1 : decode cX9_walks 1 = .ok (.iconst 0, 1) := by decide +kernel
theorem dX9_walks_2 : decode cX9_walks 2 = .ok (.putfield 48, 3) := by decide +kernel
theorem dX9_walks_5 : decode cX9_walks 5 = .ok (.aload_n 0, 1) := by decide +kernel
theorem dX9_walks_6 : decode cX9_walks 6 = .ok (.iload_n 1, 1) := by decide +kernel
theorem dX9_walks_7 : decode cX9_walks 7 = .ok (.invokevirtual 142, 3) := by decide +kernel
theorem dX9_walks_10 : decode cX9_walks 10 = .ok (.ifCond .ne 6, 3) := by decide +kernel
theorem dX9_walks_13 : decode cX9_walks 13 = .ok (.bipush (-2), 2) := by decide +kernel
theorem dX9_walks_15 : decode cX9_walks 15 = .ok (.ireturn, 1) := by decide +kernel
theorem dX9_walks_16 : decode cX9_walks 16 = .ok (.iload_n 2, 1) := by decide +kernel
theorem dX9_walks_17 : decode cX9_walks 17 = .ok (.i2l, 1) := by decide +kernel
theorem dX9_walks_18 : decode cX9_walks 18 = .ok (.lconst 0, 1) := by decide +kernel
theorem dX9_walks_19 : decode cX9_walks 19 = .ok (.lconst 1, 1) := by decide +kernel
theorem dX9_walks_20 : decode cX9_walks 20 = .ok (.invokestatic 52, 3) := by decide +kernel
theorem dX9_walks_23 : decode cX9_walks 23 = .ok (.ifCond .ne 6, 3) := by decide +kernel
theorem dX9_walks_26 : decode cX9_walks 26 = .ok (.bipush (-3), 2) := by decide +kernel
theorem dX9_walks_28 : decode cX9_walks 28 = .ok (.ireturn, 1) := by decide +kernel
theorem dX9_walks_29 : decode cX9_walks 29 = .ok (.aload_n 0, 1) := by decide +kernel
theorem dX9_walks_30 : decode cX9_walks 30 = .ok (.invokevirtual 154, 3) := by decide +kernel
theorem dX9_walks_33 : decode cX9_walks 33 = .ok (.aload_n 0, 1) := by decide +kernel
theorem dX9_walks_34 : decode cX9_walks 34 = .ok (.getfield 7, 3) := by decide +kernel
theorem dX9_walks_37 : decode cX9_walks 37 = .ok (.iconst 3, 1) := by decide +kernel
theorem dX9_walks_38 : decode cX9_walks 38 = .ok (.iaload, 1) := by decide +kernel
theorem dX9_walks_39 : decode cX9_walks 39 = .ok (.iload_n 1, 1) := by decide +kernel
theorem dX9_walks_40 : decode cX9_walks 40 = .ok (.ishr, 1) := by decide +kernel
theorem dX9_walks_41 : decode cX9_walks 41 = .ok (.iconst 1, 1) := by decide +kernel
theorem dX9_walks_42 : decode cX9_walks 42 = .ok (.iand, 1) := by decide +kernel
theorem dX9_walks_43 : decode cX9_walks 43 = .ok (.istore_n 3, 1) := by decide +kernel
theorem dX9_walks_44 : decode cX9_walks 44 = .ok (.aload_n 0, 1) := by decide +kernel
theorem dX9_walks_45 : decode cX9_walks 45 = .ok (.getfield 7, 3) := by decide +kernel
theorem dX9_walks_48 : decode cX9_walks 48 = .ok (.iconst 3, 1) := by decide +kernel
theorem dX9_walks_49 : decode cX9_walks 49 = .ok (.aload_n 0, 1) := by decide +kernel
theorem dX9_walks_50 : decode cX9_walks 50 = .ok (.getfield 7, 3) := by decide +kernel
theorem dX9_walks_53 : decode cX9_walks 53 = .ok (.iconst 3, 1) := by decide +kernel
theorem dX9_walks_54 : decode cX9_walks 54 = .ok (.iaload, 1) := by decide +kernel
theorem dX9_walks_55 : decode cX9_walks 55 = .ok (.iconst 1, 1) := by decide +kernel
theorem dX9_walks_56 : decode cX9_walks 56 = .ok (.iload_n 1, 1) := by decide +kernel
theorem dX9_walks_57 : decode cX9_walks 57 = .ok (.ishl, 1) := by decide +kernel
theorem dX9_walks_58 : decode cX9_walks 58 = .ok (.iconst (-1), 1) := by decide +kernel
theorem dX9_walks_59 : decode cX9_walks 59 = .ok (.ixor, 1) := by decide +kernel
theorem dX9_walks_60 : decode cX9_walks 60 = .ok (.iand, 1) := by decide +kernel
theorem dX9_walks_61 : decode cX9_walks 61 = .ok (.iload_n 2, 1) := by decide +kernel
theorem dX9_walks_62 : decode cX9_walks 62 = .ok (.iload_n 1, 1) := by decide +kernel
theorem dX9_walks_63 : decode cX9_walks 63 = .ok (.ishl, 1) := by decide +kernel
theorem dX9_walks_64 : decode cX9_walks 64 = .ok (.ior, 1) := by decide +kernel
theorem dX9_walks_65 : decode cX9_walks 65 = .ok (.iastore, 1) := by decide +kernel
theorem dX9_walks_66 : decode cX9_walks 66 = .ok (.iload_n 3, 1) := by decide +kernel
theorem dX9_walks_67 : decode cX9_walks 67 = .ok (.ireturn, 1) := by decide +kernel
theorem dX9_flatten_0 : decode cX9_flatten 0 = .ok (.aload_n 0, 1) := by decide +kernel
theorem dX9_flatten_1 : decode cX9_flatten 1 = .ok (.iconst 0, 1) := by decide +kernel
theorem dX9_flatten_2 : decode cX9_flatten 2 = .ok (.putfield 48, 3) := by decide +kernel
theorem dX9_flatten_5 : decode cX9_flatten 5 = .ok (.iload_n 1, 1) := by decide +kernel
theorem dX9_flatten_6 : decode cX9_flatten 6 = .ok (.i2l, 1) := by decide +kernel
theorem dX9_flatten_7 : decode cX9_flatten 7 = .ok (.lconst 1, 1) := by decide +kernel
theorem dX9_flatten_8 : decode cX9_flatten 8 = .ok (.aload_n 0, 1) := by decide +kernel
theorem dX9_flatten_9 : decode cX9_flatten 9 = .ok (.getfield 7, 3) := by decide +kernel
theorem dX9_flatten_12 : decode cX9_flatten 12 = .ok (.iconst 0, 1) := by decide +kernel
theorem dX9_flatten_13 : decode cX9_flatten 13 = .ok (.iaload, 1) := by decide +kernel
theorem dX9_flatten_14 : decode cX9_flatten 14 = .ok (.i2l, 1) := by decide +kernel
theorem dX9_flatten_15 : decode cX9_flatten 15 = .ok (.invokestatic 52, 3) := by decide +kernel
theorem dX9_flatten_18 : decode cX9_flatten 18 = .ok (.ifCond .eq 15, 3) := by decide +kernel
theorem dX9_flatten_21 : decode cX9_flatten 21 = .ok (.iload_n 2, 1) := by decide +kernel
theorem dX9_flatten_22 : decode cX9_flatten 22 = .ok (.i2l, 1) := by decide +kernel
theorem dX9_flatten_23 : decode cX9_flatten 23 = .ok (.lconst 1, 1) := by decide +kernel
theorem dX9_flatten_24 : decode cX9_flatten 24 = .ok (.ldc2_w 157, 3) := by decide +kernel
theorem dX9_flatten_27 : decode cX9_flatten 27 = .ok (.invokestatic 52, 3) := by decide +kernel
theorem dX9_flatten_30 : decode cX9_flatten 30 = .ok (.ifCond .ne 6, 3) := by decide +kernel
theorem dX9_flatten_33 : decode cX9_flatten 33 = .ok (.bipush (-3), 2) := by decide +kernel
theorem dX9_flatten_35 : decode cX9_flatten 35 = .ok (.ireturn, 1) := by decide +kernel
theorem dX9_flatten_36 : decode cX9_flatten 36 = .ok (.aload_n 0, 1) := by decide +kernel
theorem dX9_flatten_37 : decode cX9_flatten 37 = .ok (.invokevirtual 154, 3) := by decide +kernel
theorem dX9_flatten_40 : decode cX9_flatten 40 = .ok (.aload_n 0, 1) := by decide +kernel
theorem dX9_flatten_41 : decode cX9_flatten 41 = .ok (.getfield 7, 3) := by decide +kernel
theorem dX9_flatten_44 : decode cX9_flatten 44 = .ok (.iconst 4, 1) := by decide +kernel
theorem dX9_flatten_45 : decode cX9_flatten 45 = .ok (.iload_n 1, 1) := by decide +kernel
theorem dX9_flatten_46 : decode cX9_flatten 46 = .ok (.iadd, 1) := by decide +kernel
theorem dX9_flatten_47 : decode cX9_flatten 47 = .ok (.iconst 1, 1) := by decide +kernel
theorem dX9_flatten_48 : decode cX9_flatten 48 = .ok (.isub, 1) := by decide +kernel
theorem dX9_flatten_49 : decode cX9_flatten 49 = .ok (.iaload, 1) := by decide +kernel
theorem dX9_flatten_50 : decode cX9_flatten 50 = .ok (.istore_n 3, 1) := by decide +kernel
theorem dX9_flatten_51 : decode cX9_flatten 51 = .ok (.aload_n 0, 1) := by decide +kernel
theorem dX9_flatten_52 : decode cX9_flatten 52 = .ok (.getfield 7, 3) := by decide +kernel
theorem dX9_flatten_55 : decode cX9_flatten 55 = .ok (.iconst 4, 1) := by decide +kernel
theorem dX9_flatten_56 : decode cX9_flatten 56 = .ok (.iload_n 1, 1) := by decide +kernel
theorem dX9_flatten_57 : decode cX9_flatten 57 = .ok (.iadd, 1) := by decide +kernel
theorem dX9_flatten_58 : decode cX9_flatten 58 = .ok (.iconst 1, 1) := by decide +kernel
theorem dX9_flatten_59 : decode cX9_flatten 59 = .ok (.isub, 1) := by decide +kernel
theorem dX9_flatten_60 : decode cX9_flatten 60 = .ok (.iload_n 2, 1) := by decide +kernel
theorem dX9_flatten_61 : decode cX9_flatten 61 = .ok (.iastore, 1) := by decide +kernel
theorem dX9_flatten_62 : decode cX9_flatten 62 = .ok (.iload_n 3, 1) := by decide +kernel
theorem dX9_flatten_63 : decode cX9_flatten 63 = .ok (.ireturn, 1) := by decide +kernel
theorem dX9_mile_0 : decode cX9_mile 0 = .ok (.aload_n 0, 1) := by decide +kernel
theorem dX9_mile_1 : decode cX9_mile 1 = .ok (.iconst 0, 1) := by decide +kernel
theorem dX9_mile_2 : decode cX9_mile 2 = .ok (.putfield 48, 3) := by decide +kernel
theorem dX9_mile_5 : decode cX9_mile 5 = .ok (.iload_n 1, 1) := by decide +kernel
theorem dX9_mile_6 : decode cX9_mile 6 = .ok (.i2l, 1) := by decide +kernel
theorem dX9_mile_7 : decode cX9_mile 7 = .ok (.lconst 1, 1) := by decide +kernel
theorem dX9_mile_8 : decode cX9_mile 8 = .ok (.ldc2_w 159, 3) := by decide +kernel
theorem dX9_mile_11 : decode cX9_mile 11 = .ok (.invokestatic 52, 3) := by decide +kernel
theorem dX9_mile_14 : decode cX9_mile 14 = .ok (.ifCond .ne 6, 3) := by decide +kernel
theorem dX9_mile_17 : decode cX9_mile 17 = .ok (.bipush (-3), 2) := by decide +kernel
theorem dX9_mile_19 : decode cX9_mile 19 = .ok (.ireturn, 1) := by decide +kernel
theorem dX9_mile_20 : decode cX9_mile 20 = .ok (.aload_n 0, 1) := by decide +kernel
theorem dX9_mile_21 : decode cX9_mile 21 = .ok (.invokevirtual 154, 3) := by decide +kernel
theorem dX9_mile_24 : decode cX9_mile 24 = .ok (.aload_n 0, 1) := by decide +kernel
theorem dX9_mile_25 : decode cX9_mile 25 = .ok (.getfield 7, 3) := by decide +kernel
theorem dX9_mile_28 : decode cX9_mile 28 = .ok (.iconst 1, 1) := by decide +kernel
theorem dX9_mile_29 : decode cX9_mile 29 = .ok (.iaload, 1) := by decide +kernel
theorem dX9_mile_30 : decode cX9_mile 30 = .ok (.istore_n 2, 1) := by decide +kernel
theorem dX9_mile_31 : decode cX9_mile 31 = .ok (.aload_n 0, 1) := by decide +kernel
theorem dX9_mile_32 : decode cX9_mile 32 = .ok (.getfield 7, 3) := by decide +kernel
theorem dX9_mile_35 : decode cX9_mile 35 = .ok (.iconst 1, 1) := by decide +kernel
theorem dX9_mile_36 : decode cX9_mile 36 = .ok (.iload_n 1, 1) := by decide +kernel
theorem dX9_mile_37 : decode cX9_mile 37 = .ok (.iastore, 1) := by decide +kernel
theorem dX9_mile_38 : decode cX9_mile 38 = .ok (.iload_n 2, 1) := by decide +kernel
theorem dX9_mile_39 : decode cX9_mile 39 = .ok (.ireturn, 1) := by decide +kernel
theorem dX9_undo_0 : decode cX9_undo 0 = .ok (.aload_n 0, 1) := by decide +kernel
theorem dX9_undo_1 : decode cX9_undo 1 = .ok (.iconst 0, 1) := by decide +kernel
theorem dX9_undo_2 : decode cX9_undo 2 = .ok (.putfield 48, 3) := by decide +kernel
theorem dX9_undo_5 : decode cX9_undo 5 = .ok (.aload_n 0, 1) := by decide +kernel
theorem dX9_undo_6 : decode cX9_undo 6 = .ok (.getfield 131, 3) := by decide +kernel
theorem dX9_undo_9 : decode cX9_undo 9 = .ok (.ifCond .ne 6, 3) := by decide +kernel
theorem dX9_undo_12 : decode cX9_undo 12 = .ok (.bipush (-4), 2) := by decide +kernel
theorem dX9_undo_14 : decode cX9_undo 14 = .ok (.ireturn, 1) := by decide +kernel
theorem dX9_undo_15 : decode cX9_undo 15 = .ok (.aload_n 0, 1) := by decide +kernel
theorem dX9_undo_16 : decode cX9_undo 16 = .ok (.dup, 1) := by decide +kernel
theorem dX9_undo_17 : decode cX9_undo 17 = .ok (.getfield 131, 3) := by decide +kernel
theorem dX9_undo_20 : decode cX9_undo 20 = .ok (.iconst 1, 1) := by decide +kernel
theorem dX9_undo_21 : decode cX9_undo 21 = .ok (.isub, 1) := by decide +kernel
theorem dX9_undo_22 : decode cX9_undo 22 = .ok (.putfield 131, 3) := by decide +kernel
theorem dX9_undo_25 : decode cX9_undo 25 = .ok (.iconst 0, 1) := by decide +kernel
theorem dX9_undo_26 : decode cX9_undo 26 = .ok (.istore_n 1, 1) := by decide +kernel
theorem dX9_undo_27 : decode cX9_undo 27 = .ok (.iload_n 1, 1) := by decide +kernel
theorem dX9_undo_28 : decode cX9_undo 28 = .ok (.bipush 36, 2) := by decide +kernel
theorem dX9_undo_30 : decode cX9_undo 30 = .ok (.if_icmp .ge 29, 3) := by decide +kernel
theorem dX9_undo_33 : decode cX9_undo 33 = .ok (.aload_n 0, 1) := by decide +kernel
theorem dX9_undo_34 : decode cX9_undo 34 = .ok (.getfield 7, 3) := by decide +kernel
theorem dX9_undo_37 : decode cX9_undo 37 = .ok (.iload_n 1, 1) := by decide +kernel
theorem dX9_undo_38 : decode cX9_undo 38 = .ok (.aload_n 0, 1) := by decide +kernel
theorem dX9_undo_39 : decode cX9_undo 39 = .ok (.getfield 19, 3) := by decide +kernel
theorem dX9_undo_42 : decode cX9_undo 42 = .ok (.bipush 36, 2) := by decide +kernel
theorem dX9_undo_44 : decode cX9_undo 44 = .ok (.aload_n 0, 1) := by decide +kernel
theorem dX9_undo_45 : decode cX9_undo 45 = .ok (.getfield 131, 3) := by decide +kernel
theorem dX9_undo_48 : decode cX9_undo 48 = .ok (.imul, 1) := by decide +kernel
theorem dX9_undo_49 : decode cX9_undo 49 = .ok (.iload_n 1, 1) := by decide +kernel
theorem dX9_undo_50 : decode cX9_undo 50 = .ok (.iadd, 1) := by decide +kernel
theorem dX9_undo_51 : decode cX9_undo 51 = .ok (.iaload, 1) := by decide +kernel
theorem dX9_undo_52 : decode cX9_undo 52 = .ok (.iastore, 1) := by decide +kernel
theorem dX9_undo_53 : decode cX9_undo 53 = .ok (.iinc 1 1, 3) := by decide +kernel
theorem dX9_undo_56 : decode cX9_undo 56 = .ok (.goto (-29), 3) := by decide +kernel
theorem dX9_undo_59 : decode cX9_undo 59 = .ok (.aload_n 0, 1) := by decide +kernel
theorem dX9_undo_60 : decode cX9_undo 60 = .ok (.getfield 131, 3) := by decide +kernel
theorem dX9_undo_63 : decode cX9_undo 63 = .ok (.ireturn, 1) := by decide +kernel
theorem dX9_keep_0 : decode cX9_keep 0 = .ok (.aload_n 0, 1) := by decide +kernel
theorem dX9_keep_1 : decode cX9_keep 1 = .ok (.iconst 0, 1) := by decide +kernel
theorem dX9_keep_2 : decode cX9_keep 2 = .ok (.putfield 48, 3) := by decide +kernel
theorem dX9_keep_5 : decode cX9_keep 5 = .ok (.iload_n 1, 1) := by decide +kernel
theorem dX9_keep_6 : decode cX9_keep 6 = .ok (.i2l, 1) := by decide +kernel
theorem dX9_keep_7 : decode cX9_keep 7 = .ok (.lconst 0, 1) := by decide +kernel
theorem dX9_keep_8 : decode cX9_keep 8 = .ok (.lconst 1, 1) := by decide +kernel
theorem dX9_keep_9 : decode cX9_keep 9 = .ok (.invokestatic 52, 3) := by decide +kernel
theorem dX9_keep_12 : decode cX9_keep 12 = .ok (.ifCond .ne 6, 3) := by decide +kernel
theorem dX9_keep_15 : decode cX9_keep 15 = .ok (.bipush (-2), 2) := by decide +kernel
theorem dX9_keep_17 : decode cX9_keep 17 = .ok (.ireturn, 1) := by decide +kernel
theorem dX9_keep_18 : decode cX9_keep 18 = .ok (.iconst 0, 1) := by decide +kernel
theorem dX9_keep_19 : decode cX9_keep 19 = .ok (.istore_n 2, 1) := by decide +kernel
theorem dX9_keep_20 : decode cX9_keep 20 = .ok (.iload_n 2, 1) := by decide +kernel
theorem dX9_keep_21 : decode cX9_keep 21 = .ok (.bipush 36, 2) := by decide +kernel
theorem dX9_keep_23 : decode cX9_keep 23 = .ok (.if_icmp .ge 26, 3) := by decide +kernel
theorem dX9_keep_26 : decode cX9_keep 26 = .ok (.aload_n 0, 1) := by decide +kernel
theorem dX9_keep_27 : decode cX9_keep 27 = .ok (.getfield 22, 3) := by decide +kernel
theorem dX9_keep_30 : decode cX9_keep 30 = .ok (.bipush 36, 2) := by decide +kernel
theorem dX9_keep_32 : decode cX9_keep 32 = .ok (.iload_n 1, 1) := by decide +kernel
theorem dX9_keep_33 : decode cX9_keep 33 = .ok (.imul, 1) := by decide +kernel
theorem dX9_keep_34 : decode cX9_keep 34 = .ok (.iload_n 2, 1) := by decide +kernel
theorem dX9_keep_35 : decode cX9_keep 35 = .ok (.iadd, 1) := by decide +kernel
theorem dX9_keep_36 : decode cX9_keep 36 = .ok (.aload_n 0, 1) := by decide +kernel
theorem dX9_keep_37 : decode cX9_keep 37 = .ok (.getfield 7, 3) := by decide +kernel
theorem dX9_keep_40 : decode cX9_keep 40 = .ok (.iload_n 2, 1) := by decide +kernel
theorem dX9_keep_41 : decode cX9_keep 41 = .ok (.iaload, 1) := by decide +kernel
theorem dX9_keep_42 : decode cX9_keep 42 = .ok (.iastore, 1) := by decide +kernel
theorem dX9_keep_43 : decode cX9_keep 43 = .ok (.iinc 2 1, 3) := by decide +kernel
theorem dX9_keep_46 : decode cX9_keep 46 = .ok (.goto (-26), 3) := by decide +kernel
theorem dX9_keep_49 : decode cX9_keep 49 = .ok (.aload_n 0, 1) := by decide +kernel
theorem dX9_keep_50 : decode cX9_keep 50 = .ok (.getfield 25, 3) := by decide +kernel
theorem dX9_keep_53 : decode cX9_keep 53 = .ok (.iload_n 1, 1) := by decide +kernel
theorem dX9_keep_54 : decode cX9_keep 54 = .ok (.iconst 1, 1) := by decide +kernel
theorem dX9_keep_55 : decode cX9_keep 55 = .ok (.bastore, 1) := by decide +kernel
theorem dX9_keep_56 : decode cX9_keep 56 = .ok (.aload_n 0, 1) := by decide +kernel
theorem dX9_keep_57 : decode cX9_keep 57 = .ok (.getfield 7, 3) := by decide +kernel
theorem dX9_keep_60 : decode cX9_keep 60 = .ok (.iconst 3, 1) := by decide +kernel
theorem dX9_keep_61 : decode cX9_keep 61 = .ok (.iaload, 1) := by decide +kernel
theorem dX9_keep_62 : decode cX9_keep 62 = .ok (.invokestatic 161, 3) := by decide +kernel
theorem dX9_keep_65 : decode cX9_keep 65 = .ok (.ireturn, 1) := by decide +kernel
theorem dX9_back_0 : decode cX9_back 0 = .ok (.aload_n 0, 1) := by decide +kernel
theorem dX9_back_1 : decode cX9_back 1 = .ok (.iconst 0, 1) := by decide +kernel
theorem dX9_back_2 : decode cX9_back 2 = .ok (.putfield 48, 3) := by decide +kernel
theorem dX9_back_5 : decode cX9_back 5 = .ok (.iload_n 1, 1) := by decide +kernel
theorem dX9_back_6 : decode cX9_back 6 = .ok (.i2l, 1) := by decide +kernel
theorem dX9_back_7 : decode cX9_back 7 = .ok (.lconst 0, 1) := by decide +kernel
theorem dX9_back_8 : decode cX9_back 8 = .ok (.lconst 1, 1) := by decide +kernel
theorem dX9_back_9 : decode cX9_back 9 = .ok (.invokestatic 52, 3) := by decide +kernel
theorem dX9_back_12 : decode cX9_back 12 = .ok (.ifCond .ne 6, 3) := by decide +kernel
theorem dX9_back_15 : decode cX9_back 15 = .ok (.bipush (-2), 2) := by decide +kernel
theorem dX9_back_17 : decode cX9_back 17 = .ok (.ireturn, 1) := by decide +kernel
theorem dX9_back_18 : decode cX9_back 18 = .ok (.aload_n 0, 1) := by decide +kernel
theorem dX9_back_19 : decode cX9_back 19 = .ok (.getfield 25, 3) := by decide +kernel
theorem dX9_back_22 : decode cX9_back 22 = .ok (.iload_n 1, 1) := by decide +kernel
theorem dX9_back_23 : decode cX9_back 23 = .ok (.baload, 1) := by decide +kernel
theorem dX9_back_24 : decode cX9_back 24 = .ok (.ifCond .ne 6, 3) := by decide +kernel
theorem dX9_back_27 : decode cX9_back 27 = .ok (.bipush (-4), 2) := by decide +kernel
theorem dX9_back_29 : decode cX9_back 29 = .ok (.ireturn, 1) := by decide +kernel
theorem dX9_back_30 : decode cX9_back 30 = .ok (.iconst 0, 1) := by decide +kernel
theorem dX9_back_31 : decode cX9_back 31 = .ok (.istore_n 2, 1) := by decide +kernel
theorem dX9_back_32 : decode cX9_back 32 = .ok (.iload_n 2, 1) := by decide +kernel
theorem dX9_back_33 : decode cX9_back 33 = .ok (.bipush 36, 2) := by decide +kernel
theorem dX9_back_35 : decode cX9_back 35 = .ok (.if_icmp .ge 26, 3) := by decide +kernel
theorem dX9_back_38 : decode cX9_back 38 = .ok (.aload_n 0, 1) := by decide +kernel
theorem dX9_back_39 : decode cX9_back 39 = .ok (.getfield 7, 3) := by decide +kernel
theorem dX9_back_42 : decode cX9_back 42 = .ok (.iload_n 2, 1) := by decide +kernel
theorem dX9_back_43 : decode cX9_back 43 = .ok (.aload_n 0, 1) := by decide +kernel
theorem dX9_back_44 : decode cX9_back 44 = .ok (.getfield 22, 3) := by decide +kernel
theorem dX9_back_47 : decode cX9_back 47 = .ok (.bipush 36, 2) := by decide +kernel
theorem dX9_back_49 : decode cX9_back 49 = .ok (.iload_n 1, 1) := by decide +kernel
theorem dX9_back_50 : decode cX9_back 50 = .ok (.imul, 1) := by decide +kernel
theorem dX9_back_51 : decode cX9_back 51 = .ok (.iload_n 2, 1) := by decide +kernel
theorem dX9_back_52 : decode cX9_back 52 = .ok (.iadd, 1) := by decide +kernel
theorem dX9_back_53 : decode cX9_back 53 = .ok (.iaload, 1) := by decide +kernel
theorem dX9_back_54 : decode cX9_back 54 = .ok (.iastore, 1) := by decide +kernel
theorem dX9_back_55 : decode cX9_back 55 = .ok (.iinc 2 1, 3) := by decide +kernel
theorem dX9_back_58 : decode cX9_back 58 = .ok (.goto (-26), 3) := by decide +kernel
theorem dX9_back_61 : decode cX9_back 61 = .ok (.aload_n 0, 1) := by decide +kernel
theorem dX9_back_62 : decode cX9_back 62 = .ok (.iconst 0, 1) := by decide +kernel
theorem dX9_back_63 : decode cX9_back 63 = .ok (.putfield 131, 3) := by decide +kernel
theorem dX9_back_66 : decode cX9_back 66 = .ok (.aload_n 0, 1) := by decide +kernel
theorem dX9_back_67 : decode cX9_back 67 = .ok (.getfield 7, 3) := by decide +kernel
theorem dX9_back_70 : decode cX9_back 70 = .ok (.iconst 3, 1) := by decide +kernel
theorem dX9_back_71 : decode cX9_back 71 = .ok (.iaload, 1) := by decide +kernel
theorem dX9_back_72 : decode cX9_back 72 = .ok (.invokestatic 161, 3) := by decide +kernel
theorem dX9_back_75 : decode cX9_back 75 = .ok (.ireturn, 1) := by decide +kernel
theorem dX9_stone_0 : decode cX9_stone 0 = .ok (.aload_n 0, 1) := by decide +kernel
theorem dX9_stone_1 : decode cX9_stone 1 = .ok (.iconst 0, 1) := by decide +kernel
theorem dX9_stone_2 : decode cX9_stone 2 = .ok (.putfield 48, 3) := by decide +kernel
theorem dX9_stone_5 : decode cX9_stone 5 = .ok (.aload_n 0, 1) := by decide +kernel
theorem dX9_stone_6 : decode cX9_stone 6 = .ok (.iload_n 1, 1) := by decide +kernel
theorem dX9_stone_7 : decode cX9_stone 7 = .ok (.invokevirtual 142, 3) := by decide +kernel
theorem dX9_stone_10 : decode cX9_stone 10 = .ok (.ifCond .ne 6, 3) := by decide +kernel
theorem dX9_stone_13 : decode cX9_stone 13 = .ok (.bipush (-2), 2) := by decide +kernel
theorem dX9_stone_15 : decode cX9_stone 15 = .ok (.ireturn, 1) := by decide +kernel
theorem dX9_stone_16 : decode cX9_stone 16 = .ok (.iload_n 2, 1) := by decide +kernel
theorem dX9_stone_17 : decode cX9_stone 17 = .ok (.i2l, 1) := by decide +kernel
theorem dX9_stone_18 : decode cX9_stone 18 = .ok (.lconst 1, 1) := by decide +kernel
theorem dX9_stone_19 : decode cX9_stone 19 = .ok (.ldc2_w 164, 3) := by decide +kernel
theorem dX9_stone_22 : decode cX9_stone 22 = .ok (.invokestatic 52, 3) := by decide +kernel
theorem dX9_stone_25 : decode cX9_stone 25 = .ok (.ifCond .eq 12, 3) := by decide +kernel
theorem dX9_stone_28 : decode cX9_stone 28 = .ok (.aload_n 0, 1) := by decide +kernel
theorem dX9_stone_29 : decode cX9_stone 29 = .ok (.iload_n 1, 1) := by decide +kernel
theorem dX9_stone_30 : decode cX9_stone 30 = .ok (.iload_n 2, 1) := by decide +kernel
theorem dX9_stone_31 : decode cX9_stone 31 = .ok (.invokevirtual 145, 3) := by decide +kernel
theorem dX9_stone_34 : decode cX9_stone 34 = .ok (.goto 5, 3) := by decide +kernel
theorem dX9_stone_37 : decode cX9_stone 37 = .ok (.bipush (-3), 2) := by decide +kernel
theorem dX9_stone_39 : decode cX9_stone 39 = .ok (.ireturn, 1) := by decide +kernel
theorem dX9_layMean_0 : decode cX9_layMean 0 = .ok (.aload_n 0, 1) := by decide +kernel
theorem dX9_layMean_1 : decode cX9_layMean 1 = .ok (.iconst 0, 1) := by decide +kernel
theorem dX9_layMean_2 : decode cX9_layMean 2 = .ok (.putfield 166, 3) := by decide +kernel
theorem dX9_layMean_5 : decode cX9_layMean 5 = .ok (.aload_n 0, 1) := by decide +kernel
theorem dX9_layMean_6 : decode cX9_layMean 6 = .ok (.iconst 0, 1) := by decide +kernel
theorem dX9_layMean_7 : decode cX9_layMean 7 = .ok (.putfield 169, 3) := by decide +kernel
theorem dX9_layMean_10 : decode cX9_layMean 10 = .ok (.iconst 0, 1) := by decide +kernel
theorem dX9_layMean_11 : decode cX9_layMean 11 = .ok (.istore_n 3, 1) := by decide +kernel
theorem dX9_layMean_12 : decode cX9_layMean 12 = .ok (.iload_n 3, 1) := by decide +kernel
theorem dX9_layMean_13 : decode cX9_layMean 13 = .ok (.aload_n 0, 1) := by decide +kernel
theorem dX9_layMean_14 : decode cX9_layMean 14 = .ok (.getfield 7, 3) := by decide +kernel
theorem dX9_layMean_17 : decode cX9_layMean 17 = .ok (.iconst 2, 1) := by decide +kernel
theorem dX9_layMean_18 : decode cX9_layMean 18 = .ok (.iaload, 1) := by decide +kernel
theorem dX9_layMean_19 : decode cX9_layMean 19 = .ok (.if_icmp .ge 71, 3) := by decide +kernel
theorem dX9_layMean_22 : decode cX9_layMean 22 = .ok (.iload_n 1, 1) := by decide +kernel
theorem dX9_layMean_23 : decode cX9_layMean 23 = .ok (.iload_n 3, 1) := by decide +kernel
theorem dX9_layMean_24 : decode cX9_layMean 24 = .ok (.ishr, 1) := by decide +kernel
theorem dX9_layMean_25 : decode cX9_layMean 25 = .ok (.iconst 1, 1) := by decide +kernel
theorem dX9_layMean_26 : decode cX9_layMean 26 = .ok (.iand, 1) := by decide +kernel
theorem dX9_layMean_27 : decode cX9_layMean 27 = .ok (.iconst 1, 1) := by decide +kernel
theorem dX9_layMean_28 : decode cX9_layMean 28 = .ok (.if_icmp .ne 12, 3) := by decide +kernel
theorem dX9_layMean_31 : decode cX9_layMean 31 = .ok (.aload_n 0, 1) := by decide +kernel
theorem dX9_layMean_32 : decode cX9_layMean 32 = .ok (.iload_n 3, 1) := by decide +kernel
theorem dX9_layMean_33 : decode cX9_layMean 33 = .ok (.iload_n 2, 1) := by decide +kernel
theorem dX9_layMean_34 : decode cX9_layMean 34 = .ok (.invokevirtual 145, 3) := by decide +kernel
theorem dX9_layMean_37 : decode cX9_layMean 37 = .ok (.goto 4, 3) := by decide +kernel
theorem dX9_layMean_40 : decode cX9_layMean 40 = .ok (.iconst (-1), 1) := by decide +kernel
theorem dX9_layMean_41 : decode cX9_layMean 41 = .ok (.istore 4, 2) := by decide +kernel
theorem dX9_layMean_43 : decode cX9_layMean 43 = .ok (.aload_n 0, 1) := by decide +kernel
theorem dX9_layMean_44 : decode cX9_layMean 44 = .ok (.dup, 1) := by decide +kernel
theorem dX9_layMean_45 : decode cX9_layMean 45 = .ok (.getfield 166, 3) := by decide +kernel
theorem dX9_layMean_48 : decode cX9_layMean 48 = .ok (.iload 4, 2) := by decide +kernel
theorem dX9_layMean_50 : decode cX9_layMean 50 = .ok (.iconst (-1), 1) := by decide +kernel
theorem dX9_layMean_51 : decode cX9_layMean 51 = .ok (.if_icmp .ne 7, 3) := by decide +kernel
theorem dX9_layMean_54 : decode cX9_layMean 54 = .ok (.iconst 0, 1) := by decide +kernel
theorem dX9_layMean_55 : decode cX9_layMean 55 = .ok (.goto 5, 3) := by decide +kernel
theorem dX9_layMean_58 : decode cX9_layMean 58 = .ok (.iload 4, 2) := by decide +kernel
theorem dX9_layMean_60 : decode cX9_layMean 60 = .ok (.iadd, 1) := by decide +kernel
theorem dX9_layMean_61 : decode cX9_layMean 61 = .ok (.putfield 166, 3) := by decide +kernel
theorem dX9_layMean_64 : decode cX9_layMean 64 = .ok (.aload_n 0, 1) := by decide +kernel
theorem dX9_layMean_65 : decode cX9_layMean 65 = .ok (.dup, 1) := by decide +kernel
theorem dX9_layMean_66 : decode cX9_layMean 66 = .ok (.getfield 169, 3) := by decide +kernel
theorem dX9_layMean_69 : decode cX9_layMean 69 = .ok (.iload 4, 2) := by decide +kernel
theorem dX9_layMean_71 : decode cX9_layMean 71 = .ok (.iconst (-1), 1) := by decide +kernel
theorem dX9_layMean_72 : decode cX9_layMean 72 = .ok (.if_icmp .ne 7, 3) := by decide +kernel
theorem dX9_layMean_75 : decode cX9_layMean 75 = .ok (.iconst 0, 1) := by decide +kernel
theorem dX9_layMean_76 : decode cX9_layMean 76 = .ok (.goto 4, 3) := by decide +kernel
theorem dX9_layMean_79 : decode cX9_layMean 79 = .ok (.iconst 1, 1) := by decide +kernel
theorem dX9_layMean_80 : decode cX9_layMean 80 = .ok (.iadd, 1) := by decide +kernel
theorem dX9_layMean_81 : decode cX9_layMean 81 = .ok (.putfield 169, 3) := by decide +kernel
theorem dX9_layMean_84 : decode cX9_layMean 84 = .ok (.iinc 3 1, 3) := by decide +kernel
theorem dX9_layMean_87 : decode cX9_layMean 87 = .ok (.goto (-75), 3) := by decide +kernel
theorem dX9_layMean_90 : decode cX9_layMean 90 = .ok (.aload_n 0, 1) := by decide +kernel
theorem dX9_layMean_91 : decode cX9_layMean 91 = .ok (.getfield 169, 3) := by decide +kernel
theorem dX9_layMean_94 : decode cX9_layMean 94 = .ok (.ifCond .le 7, 3) := by decide +kernel
theorem dX9_layMean_97 : decode cX9_layMean 97 = .ok (.iconst 1, 1) := by decide +kernel
theorem dX9_layMean_98 : decode cX9_layMean 98 = .ok (.goto 4, 3) := by decide +kernel
theorem dX9_layMean_101 : decode cX9_layMean 101 = .ok (.iconst 0, 1) := by decide +kernel
theorem dX9_layMean_102 : decode cX9_layMean 102 = .ok (.ireturn, 1) := by decide +kernel
theorem dX9_layPlace_0 : decode cX9_layPlace 0 = .ok (.aload_n 0, 1) := by decide +kernel
theorem dX9_layPlace_1 : decode cX9_layPlace 1 = .ok (.iload_n 1, 1) := by decide +kernel
theorem dX9_layPlace_2 : decode cX9_layPlace 2 = .ok (.iload_n 2, 1) := by decide +kernel
theorem dX9_layPlace_3 : decode cX9_layPlace 3 = .ok (.invokevirtual 172, 3) := by decide +kernel
theorem dX9_layPlace_6 : decode cX9_layPlace 6 = .ok (.ifCond .ne 18, 3) := by decide +kernel
theorem dX9_layPlace_9 : decode cX9_layPlace 9 = .ok (.aload_n 0, 1) := by decide +kernel
theorem dX9_layPlace_10 : decode cX9_layPlace 10 = .ok (.aload_n 0, 1) := by decide +kernel
theorem dX9_layPlace_11 : decode cX9_layPlace 11 = .ok (.getfield 7, 3) := by decide +kernel
theorem dX9_layPlace_14 : decode cX9_layPlace 14 = .ok (.iconst 0, 1) := by decide +kernel
theorem dX9_layPlace_15 : decode cX9_layPlace 15 = .ok (.iaload, 1) := by decide +kernel
theorem dX9_layPlace_16 : decode cX9_layPlace 16 = .ok (.putfield 166, 3) := by decide +kernel
theorem dX9_layPlace_19 : decode cX9_layPlace 19 = .ok (.aload_n 0, 1) := by decide +kernel
theorem dX9_layPlace_20 : decode cX9_layPlace 20 = .ok (.iconst 1, 1) := by decide +kernel
theorem dX9_layPlace_21 : decode cX9_layPlace 21 = .ok (.putfield 169, 3) := by decide +kernel
theorem dX9_layPlace_24 : decode cX9_layPlace 24 = .ok (.return_, 1) := by decide +kernel
theorem dX9_common_0 : decode cX9_common 0 = .ok (.lload_n 0, 1) := by decide +kernel
theorem dX9_common_1 : decode cX9_common 1 = .ok (.lstore 4, 2) := by decide +kernel
theorem dX9_common_3 : decode cX9_common 3 = .ok (.lload_n 2, 1) := by decide +kernel
theorem dX9_common_4 : decode cX9_common 4 = .ok (.lstore 6, 2) := by decide +kernel
theorem dX9_common_6 : decode cX9_common 6 = .ok (.lload 6, 2) := by decide +kernel
theorem dX9_common_8 : decode cX9_common 8 = .ok (.lconst 0, 1) := by decide +kernel
theorem dX9_common_9 : decode cX9_common 9 = .ok (.lcmp, 1) := by decide +kernel
theorem dX9_common_10 : decode cX9_common 10 = .ok (.ifCond .eq 21, 3) := by decide +kernel
theorem dX9_common_13 : decode cX9_common 13 = .ok (.lload 4, 2) := by decide +kernel
theorem dX9_common_15 : decode cX9_common 15 = .ok (.lload 6, 2) := by decide +kernel
theorem dX9_common_17 : decode cX9_common 17 = .ok (.lrem, 1) := by decide +kernel
theorem dX9_common_18 : decode cX9_common 18 = .ok (.lstore 8, 2) := by decide +kernel
theorem dX9_common_20 : decode cX9_common 20 = .ok (.lload 6, 2) := by decide +kernel
theorem dX9_common_22 : decode cX9_common 22 = .ok (.lstore 4, 2) := by decide +kernel
theorem dX9_common_24 : decode cX9_common 24 = .ok (.lload 8, 2) := by decide +kernel
theorem dX9_common_26 : decode cX9_common 26 = .ok (.lstore 6, 2) := by decide +kernel
theorem dX9_common_28 : decode cX9_common 28 = .ok (.goto (-22), 3) := by decide +kernel
theorem dX9_common_31 : decode cX9_common 31 = .ok (.lload 4, 2) := by decide +kernel
theorem dX9_common_33 : decode cX9_common 33 = .ok (.lreturn, 1) := by decide +kernel
theorem dX9_law_0 : decode cX9_law 0 = .ok (.aload_n 0, 1) := by decide +kernel
theorem dX9_law_1 : decode cX9_law 1 = .ok (.iconst 0, 1) := by decide +kernel
theorem dX9_law_2 : decode cX9_law 2 = .ok (.putfield 48, 3) := by decide +kernel
theorem dX9_law_5 : decode cX9_law 5 = .ok (.iload_n 1, 1) := by decide +kernel
theorem dX9_law_6 : decode cX9_law 6 = .ok (.i2l, 1) := by decide +kernel
theorem dX9_law_7 : decode cX9_law 7 = .ok (.lconst 1, 1) := by decide +kernel
theorem dX9_law_8 : decode cX9_law 8 = .ok (.ldc2_w 164, 3) := by decide +kernel
theorem dX9_law_11 : decode cX9_law 11 = .ok (.invokestatic 52, 3) := by decide +kernel
theorem dX9_law_14 : decode cX9_law 14 = .ok (.ifCond .eq 13, 3) := by decide +kernel
theorem dX9_law_17 : decode cX9_law 17 = .ok (.iload_n 2, 1) := by decide +kernel
theorem dX9_law_18 : decode cX9_law 18 = .ok (.i2l, 1) := by decide +kernel
theorem dX9_law_19 : decode cX9_law 19 = .ok (.lconst 0, 1) := by decide +kernel
theorem dX9_law_20 : decode cX9_law 20 = .ok (.lconst 1, 1) := by decide +kernel
theorem dX9_law_21 : decode cX9_law 21 = .ok (.invokestatic 52, 3) := by decide +kernel
theorem dX9_law_24 : decode cX9_law 24 = .ok (.ifCond .ne 6, 3) := by decide +kernel
theorem dX9_law_27 : decode cX9_law 27 = .ok (.bipush (-3), 2) := by decide +kernel
theorem dX9_law_29 : decode cX9_law 29 = .ok (.ireturn, 1) := by decide +kernel
theorem dX9_law_30 : decode cX9_law 30 = .ok (.aload_n 0, 1) := by decide +kernel
theorem dX9_law_31 : decode cX9_law 31 = .ok (.aload_n 0, 1) := by decide +kernel
theorem dX9_law_32 : decode cX9_law 32 = .ok (.getfield 7, 3) := by decide +kernel
theorem dX9_law_35 : decode cX9_law 35 = .ok (.iconst 3, 1) := by decide +kernel
theorem dX9_law_36 : decode cX9_law 36 = .ok (.iaload, 1) := by decide +kernel
theorem dX9_law_37 : decode cX9_law 37 = .ok (.iload_n 1, 1) := by decide +kernel
theorem dX9_law_38 : decode cX9_law 38 = .ok (.invokevirtual 172, 3) := by decide +kernel
theorem dX9_law_41 : decode cX9_law 41 = .ok (.ifCond .ne 5, 3) := by decide +kernel
theorem dX9_law_44 : decode cX9_law 44 = .ok (.iconst (-1), 1) := by decide +kernel
theorem dX9_law_45 : decode cX9_law 45 = .ok (.ireturn, 1) := by decide +kernel
theorem dX9_law_46 : decode cX9_law 46 = .ok (.aload_n 0, 1) := by decide +kernel
theorem dX9_law_47 : decode cX9_law 47 = .ok (.getfield 166, 3) := by decide +kernel
theorem dX9_law_50 : decode cX9_law 50 = .ok (.i2l, 1) := by decide +kernel
theorem dX9_law_51 : decode cX9_law 51 = .ok (.aload_n 0, 1) := by decide +kernel
theorem dX9_law_52 : decode cX9_law 52 = .ok (.getfield 169, 3) := by decide +kernel
theorem dX9_law_55 : decode cX9_law 55 = .ok (.i2l, 1) := by decide +kernel
theorem dX9_law_56 : decode cX9_law 56 = .ok (.invokestatic 176, 3) := by decide +kernel
theorem dX9_law_59 : decode cX9_law 59 = .ok (.l2i, 1) := by decide +kernel
theorem dX9_law_60 : decode cX9_law 60 = .ok (.istore_n 3, 1) := by decide +kernel
theorem dX9_law_61 : decode cX9_law 61 = .ok (.iload_n 2, 1) := by decide +kernel
theorem dX9_law_62 : decode cX9_law 62 = .ok (.ifCond .ne 10, 3) := by decide +kernel
theorem dX9_law_65 : decode cX9_law 65 = .ok (.aload_n 0, 1) := by decide +kernel
theorem dX9_law_66 : decode cX9_law 66 = .ok (.getfield 166, 3) := by decide +kernel
theorem dX9_law_69 : decode cX9_law 69 = .ok (.goto 7, 3) := by decide +kernel
theorem dX9_law_72 : decode cX9_law 72 = .ok (.aload_n 0, 1) := by decide +kernel
theorem dX9_law_73 : decode cX9_law 73 = .ok (.getfield 169, 3) := by decide +kernel
theorem dX9_law_76 : decode cX9_law 76 = .ok (.iload_n 3, 1) := by decide +kernel
theorem dX9_law_77 : decode cX9_law 77 = .ok (.idiv, 1) := by decide +kernel
theorem dX9_law_78 : decode cX9_law 78 = .ok (.ireturn, 1) := by decide +kernel
theorem dX9_crossed_0 : decode cX9_crossed 0 = .ok (.aload_n 0, 1) := by decide +kernel
theorem dX9_crossed_1 : decode cX9_crossed 1 = .ok (.iconst 0, 1) := by decide +kernel
theorem dX9_crossed_2 : decode cX9_crossed 2 = .ok (.putfield 48, 3) := by decide +kernel
theorem dX9_crossed_5 : decode cX9_crossed 5 = .ok (.iconst 1, 1) := by decide +kernel
theorem dX9_crossed_6 : decode cX9_crossed 6 = .ok (.istore_n 1, 1) := by decide +kernel
theorem dX9_crossed_7 : decode cX9_crossed 7 = .ok (.iload_n 1, 1) := by decide +kernel
theorem dX9_crossed_8 : decode cX9_crossed 8 = .ok (.bipush 8, 2) := by decide +kernel
theorem dX9_crossed_10 : decode cX9_crossed 10 = .ok (.if_icmp .ge 70, 3) := by decide +kernel
theorem dX9_crossed_13 : decode cX9_crossed 13 = .ok (.aload_n 0, 1) := by decide +kernel
theorem dX9_crossed_14 : decode cX9_crossed 14 = .ok (.aload_n 0, 1) := by decide +kernel
theorem dX9_crossed_15 : decode cX9_crossed 15 = .ok (.getfield 7, 3) := by decide +kernel
theorem dX9_crossed_18 : decode cX9_crossed 18 = .ok (.iconst 3, 1) := by decide +kernel
theorem dX9_crossed_19 : decode cX9_crossed 19 = .ok (.iaload, 1) := by decide +kernel
theorem dX9_crossed_20 : decode cX9_crossed 20 = .ok (.iload_n 1, 1) := by decide +kernel
theorem dX9_crossed_21 : decode cX9_crossed 21 = .ok (.invokevirtual 172, 3) := by decide +kernel
theorem dX9_crossed_24 : decode cX9_crossed 24 = .ok (.istore_n 2, 1) := by decide +kernel
theorem dX9_crossed_25 : decode cX9_crossed 25 = .ok (.aload_n 0, 1) := by decide +kernel
theorem dX9_crossed_26 : decode cX9_crossed 26 = .ok (.getfield 166, 3) := by decide +kernel
theorem dX9_crossed_29 : decode cX9_crossed 29 = .ok (.istore_n 3, 1) := by decide +kernel
theorem dX9_crossed_30 : decode cX9_crossed 30 = .ok (.aload_n 0, 1) := by decide +kernel
theorem dX9_crossed_31 : decode cX9_crossed 31 = .ok (.getfield 169, 3) := by decide +kernel
theorem dX9_crossed_34 : decode cX9_crossed 34 = .ok (.istore 4, 2) := by decide +kernel
theorem dX9_crossed_36 : decode cX9_crossed 36 = .ok (.iload_n 2, 1) := by decide +kernel
theorem dX9_crossed_37 : decode cX9_crossed 37 = .ok (.ifCond .eq 37, 3) := by decide +kernel
theorem dX9_crossed_40 : decode cX9_crossed 40 = .ok (.aload_n 0, 1) := by decide +kernel
theorem dX9_crossed_41 : decode cX9_crossed 41 = .ok (.aload_n 0, 1) := by decide +kernel
theorem dX9_crossed_42 : decode cX9_crossed 42 = .ok (.getfield 7, 3) := by decide +kernel
theorem dX9_crossed_45 : decode cX9_crossed 45 = .ok (.iconst 3, 1) := by decide +kernel
theorem dX9_crossed_46 : decode cX9_crossed 46 = .ok (.iaload, 1) := by decide +kernel
theorem dX9_crossed_47 : decode cX9_crossed 47 = .ok (.iload_n 1, 1) := by decide +kernel
theorem dX9_crossed_48 : decode cX9_crossed 48 = .ok (.iconst 1, 1) := by decide +kernel
theorem dX9_crossed_49 : decode cX9_crossed 49 = .ok (.iadd, 1) := by decide +kernel
theorem dX9_crossed_50 : decode cX9_crossed 50 = .ok (.invokevirtual 172, 3) := by decide +kernel
theorem dX9_crossed_53 : decode cX9_crossed 53 = .ok (.ifCond .eq 21, 3) := by decide +kernel
theorem dX9_crossed_56 : decode cX9_crossed 56 = .ok (.aload_n 0, 1) := by decide +kernel
theorem dX9_crossed_57 : decode cX9_crossed 57 = .ok (.getfield 166, 3) := by decide +kernel
theorem dX9_crossed_60 : decode cX9_crossed 60 = .ok (.iload 4, 2) := by decide +kernel
theorem dX9_crossed_62 : decode cX9_crossed 62 = .ok (.imul, 1) := by decide +kernel
theorem dX9_crossed_63 : decode cX9_crossed 63 = .ok (.iload_n 3, 1) := by decide +kernel
theorem dX9_crossed_64 : decode cX9_crossed 64 = .ok (.aload_n 0, 1) := by decide +kernel
theorem dX9_crossed_65 : decode cX9_crossed 65 = .ok (.getfield 169, 3) := by decide +kernel
theorem dX9_crossed_68 : decode cX9_crossed 68 = .ok (.imul, 1) := by decide +kernel
theorem dX9_crossed_69 : decode cX9_crossed 69 = .ok (.if_icmp .gt 5, 3) := by decide +kernel
theorem dX9_crossed_72 : decode cX9_crossed 72 = .ok (.iload_n 1, 1) := by decide +kernel
theorem dX9_crossed_73 : decode cX9_crossed 73 = .ok (.ireturn, 1) := by decide +kernel
theorem dX9_crossed_74 : decode cX9_crossed 74 = .ok (.iinc 1 1, 3) := by decide +kernel
theorem dX9_crossed_77 : decode cX9_crossed 77 = .ok (.goto (-70), 3) := by decide +kernel
theorem dX9_crossed_80 : decode cX9_crossed 80 = .ok (.iconst (-1), 1) := by decide +kernel
theorem dX9_crossed_81 : decode cX9_crossed 81 = .ok (.ireturn, 1) := by decide +kernel
theorem dX9_books_0 : decode cX9_books 0 = .ok (.aload_n 0, 1) := by decide +kernel
theorem dX9_books_1 : decode cX9_books 1 = .ok (.iconst 0, 1) := by decide +kernel
theorem dX9_books_2 : decode cX9_books 2 = .ok (.putfield 48, 3) := by decide +kernel
theorem dX9_books_5 : decode cX9_books 5 = .ok (.iload_n 1, 1) := by decide +kernel
theorem dX9_books_6 : decode cX9_books 6 = .ok (.i2l, 1) := by decide +kernel
theorem dX9_books_7 : decode cX9_books 7 = .ok (.lconst 0, 1) := by decide +kernel
theorem dX9_books_8 : decode cX9_books 8 = .ok (.aload_n 0, 1) := by decide +kernel
theorem dX9_books_9 : decode cX9_books 9 = .ok (.getfield 7, 3) := by decide +kernel
theorem dX9_books_12 : decode cX9_books 12 = .ok (.iconst 0, 1) := by decide +kernel
theorem dX9_books_13 : decode cX9_books 13 = .ok (.iaload, 1) := by decide +kernel
theorem dX9_books_14 : decode cX9_books 14 = .ok (.i2l, 1) := by decide +kernel
theorem dX9_books_15 : decode cX9_books 15 = .ok (.invokestatic 52, 3) := by decide +kernel
theorem dX9_books_18 : decode cX9_books 18 = .ok (.ifCond .eq 19, 3) := by decide +kernel
theorem dX9_books_21 : decode cX9_books 21 = .ok (.iload_n 2, 1) := by decide +kernel
theorem dX9_books_22 : decode cX9_books 22 = .ok (.i2l, 1) := by decide +kernel
theorem dX9_books_23 : decode cX9_books 23 = .ok (.lconst 0, 1) := by decide +kernel
theorem dX9_books_24 : decode cX9_books 24 = .ok (.aload_n 0, 1) := by decide +kernel
theorem dX9_books_25 : decode cX9_books 25 = .ok (.getfield 7, 3) := by decide +kernel
theorem dX9_books_28 : decode cX9_books 28 = .ok (.iconst 0, 1) := by decide +kernel
theorem dX9_books_29 : decode cX9_books 29 = .ok (.iaload, 1) := by decide +kernel
theorem dX9_books_30 : decode cX9_books 30 = .ok (.i2l, 1) := by decide +kernel
theorem dX9_books_31 : decode cX9_books 31 = .ok (.invokestatic 52, 3) := by decide +kernel
theorem dX9_books_34 : decode cX9_books 34 = .ok (.ifCond .ne 6, 3) := by decide +kernel
theorem dX9_books_37 : decode cX9_books 37 = .ok (.bipush (-3), 2) := by decide +kernel
theorem dX9_books_39 : decode cX9_books 39 = .ok (.ireturn, 1) := by decide +kernel
theorem dX9_books_40 : decode cX9_books 40 = .ok (.iload_n 1, 1) := by decide +kernel
theorem dX9_books_41 : decode cX9_books 41 = .ok (.iload_n 2, 1) := by decide +kernel
theorem dX9_books_42 : decode cX9_books 42 = .ok (.if_icmp .ge 7, 3) := by decide +kernel
theorem dX9_books_45 : decode cX9_books 45 = .ok (.iload_n 1, 1) := by decide +kernel
theorem dX9_books_46 : decode cX9_books 46 = .ok (.goto 4, 3) := by decide +kernel
theorem dX9_books_49 : decode cX9_books 49 = .ok (.iload_n 2, 1) := by decide +kernel
theorem dX9_books_50 : decode cX9_books 50 = .ok (.istore_n 3, 1) := by decide +kernel
theorem dX9_books_51 : decode cX9_books 51 = .ok (.iload_n 1, 1) := by decide +kernel
theorem dX9_books_52 : decode cX9_books 52 = .ok (.iload_n 2, 1) := by decide +kernel
theorem dX9_books_53 : decode cX9_books 53 = .ok (.if_icmp .ge 7, 3) := by decide +kernel
theorem dX9_books_56 : decode cX9_books 56 = .ok (.iload_n 2, 1) := by decide +kernel
theorem dX9_books_57 : decode cX9_books 57 = .ok (.goto 4, 3) := by decide +kernel
theorem dX9_books_60 : decode cX9_books 60 = .ok (.iload_n 1, 1) := by decide +kernel
theorem dX9_books_61 : decode cX9_books 61 = .ok (.istore 4, 2) := by decide +kernel
theorem dX9_books_63 : decode cX9_books 63 = .ok (.iconst 0, 1) := by decide +kernel
theorem dX9_books_64 : decode cX9_books 64 = .ok (.istore 5, 2) := by decide +kernel
theorem dX9_books_66 : decode cX9_books 66 = .ok (.iconst 1, 1) := by decide +kernel
theorem dX9_books_67 : decode cX9_books 67 = .ok (.istore 6, 2) := by decide +kernel
theorem dX9_books_69 : decode cX9_books 69 = .ok (.iload 6, 2) := by decide +kernel
theorem dX9_books_71 : decode cX9_books 71 = .ok (.bipush 9, 2) := by decide +kernel
theorem dX9_books_73 : decode cX9_books 73 = .ok (.if_icmp .ge 65, 3) := by decide +kernel
theorem dX9_books_76 : decode cX9_books 76 = .ok (.aload_n 0, 1) := by decide +kernel
theorem dX9_books_77 : decode cX9_books 77 = .ok (.aload_n 0, 1) := by decide +kernel
theorem dX9_books_78 : decode cX9_books 78 = .ok (.getfield 7, 3) := by decide +kernel
theorem dX9_books_81 : decode cX9_books 81 = .ok (.iconst 3, 1) := by decide +kernel
theorem dX9_books_82 : decode cX9_books 82 = .ok (.iaload, 1) := by decide +kernel
theorem dX9_books_83 : decode cX9_books 83 = .ok (.iload 6, 2) := by decide +kernel
theorem dX9_books_85 : decode cX9_books 85 = .ok (.invokevirtual 172, 3) := by decide +kernel
theorem dX9_books_88 : decode cX9_books 88 = .ok (.istore 7, 2) := by decide +kernel
theorem dX9_books_90 : decode cX9_books 90 = .ok (.iload 5, 2) := by decide +kernel
theorem dX9_books_92 : decode cX9_books 92 = .ok (.iload 7, 2) := by decide +kernel
theorem dX9_books_94 : decode cX9_books 94 = .ok (.ifCond .eq 34, 3) := by decide +kernel
theorem dX9_books_97 : decode cX9_books 97 = .ok (.aload_n 0, 1) := by decide +kernel
theorem dX9_books_98 : decode cX9_books 98 = .ok (.getfield 166, 3) := by decide +kernel
theorem dX9_books_101 : decode cX9_books 101 = .ok (.iload_n 3, 1) := by decide +kernel
theorem dX9_books_102 : decode cX9_books 102 = .ok (.aload_n 0, 1) := by decide +kernel
theorem dX9_books_103 : decode cX9_books 103 = .ok (.getfield 169, 3) := by decide +kernel
theorem dX9_books_106 : decode cX9_books 106 = .ok (.imul, 1) := by decide +kernel
theorem dX9_books_107 : decode cX9_books 107 = .ok (.if_icmp .le 21, 3) := by decide +kernel
theorem dX9_books_110 : decode cX9_books 110 = .ok (.aload_n 0, 1) := by decide +kernel
theorem dX9_books_111 : decode cX9_books 111 = .ok (.getfield 166, 3) := by decide +kernel
theorem dX9_books_114 : decode cX9_books 114 = .ok (.iload 4, 2) := by decide +kernel
theorem dX9_books_116 : decode cX9_books 116 = .ok (.aload_n 0, 1) := by decide +kernel
theorem dX9_books_117 : decode cX9_books 117 = .ok (.getfield 169, 3) := by decide +kernel
theorem dX9_books_120 : decode cX9_books 120 = .ok (.imul, 1) := by decide +kernel
theorem dX9_books_121 : decode cX9_books 121 = .ok (.if_icmp .gt 7, 3) := by decide +kernel
theorem dX9_books_124 : decode cX9_books 124 = .ok (.iconst 1, 1) := by decide +kernel
theorem dX9_books_125 : decode cX9_books 125 = .ok (.goto 4, 3) := by decide +kernel
theorem dX9_books_128 : decode cX9_books 128 = .ok (.iconst 0, 1) := by decide +kernel
theorem dX9_books_129 : decode cX9_books 129 = .ok (.iadd, 1) := by decide +kernel
theorem dX9_books_130 : decode cX9_books 130 = .ok (.istore 5, 2) := by decide +kernel
theorem dX9_books_132 : decode cX9_books 132 = .ok (.iinc 6 1, 3) := by decide +kernel
theorem dX9_books_135 : decode cX9_books 135 = .ok (.goto (-66), 3) := by decide +kernel
theorem dX9_books_138 : decode cX9_books 138 = .ok (.iload 5, 2) := by decide +kernel
theorem dX9_books_140 : decode cX9_books 140 = .ok (.ireturn, 1) := by decide +kernel
theorem dX9_send_0 : decode cX9_send 0 = .ok (.aload_n 0, 1) := by decide +kernel
theorem dX9_send_1 : decode cX9_send 1 = .ok (.iconst 0, 1) := by decide +kernel
theorem dX9_send_2 : decode cX9_send 2 = .ok (.putfield 48, 3) := by decide +kernel
theorem dX9_send_5 : decode cX9_send 5 = .ok (.iload_n 1, 1) := by decide +kernel
theorem dX9_send_6 : decode cX9_send 6 = .ok (.i2l, 1) := by decide +kernel
theorem dX9_send_7 : decode cX9_send 7 = .ok (.lconst 1, 1) := by decide +kernel
theorem dX9_send_8 : decode cX9_send 8 = .ok (.ldc2_w 164, 3) := by decide +kernel
theorem dX9_send_11 : decode cX9_send 11 = .ok (.invokestatic 52, 3) := by decide +kernel
theorem dX9_send_14 : decode cX9_send 14 = .ok (.ifCond .eq 29, 3) := by decide +kernel
theorem dX9_send_17 : decode cX9_send 17 = .ok (.iload_n 2, 1) := by decide +kernel
theorem dX9_send_18 : decode cX9_send 18 = .ok (.i2l, 1) := by decide +kernel
theorem dX9_send_19 : decode cX9_send 19 = .ok (.lconst 0, 1) := by decide +kernel
theorem dX9_send_20 : decode cX9_send 20 = .ok (.aload_n 0, 1) := by decide +kernel
theorem dX9_send_21 : decode cX9_send 21 = .ok (.getfield 7, 3) := by decide +kernel
theorem dX9_send_24 : decode cX9_send 24 = .ok (.iconst 0, 1) := by decide +kernel
theorem dX9_send_25 : decode cX9_send 25 = .ok (.iaload, 1) := by decide +kernel
theorem dX9_send_26 : decode cX9_send 26 = .ok (.i2l, 1) := by decide +kernel
theorem dX9_send_27 : decode cX9_send 27 = .ok (.invokestatic 52, 3) := by decide +kernel
theorem dX9_send_30 : decode cX9_send 30 = .ok (.ifCond .eq 13, 3) := by decide +kernel
theorem dX9_send_33 : decode cX9_send 33 = .ok (.iload_n 3, 1) := by decide +kernel
theorem dX9_send_34 : decode cX9_send 34 = .ok (.i2l, 1) := by decide +kernel
theorem dX9_send_35 : decode cX9_send 35 = .ok (.lconst 0, 1) := by decide +kernel
theorem dX9_send_36 : decode cX9_send 36 = .ok (.lconst 1, 1) := by decide +kernel
theorem dX9_send_37 : decode cX9_send 37 = .ok (.invokestatic 52, 3) := by decide +kernel
theorem dX9_send_40 : decode cX9_send 40 = .ok (.ifCond .ne 6, 3) := by decide +kernel
theorem dX9_send_43 : decode cX9_send 43 = .ok (.bipush (-3), 2) := by decide +kernel
theorem dX9_send_45 : decode cX9_send 45 = .ok (.ireturn, 1) := by decide +kernel
theorem dX9_send_46 : decode cX9_send 46 = .ok (.iconst (-1), 1) := by decide +kernel
theorem dX9_send_47 : decode cX9_send 47 = .ok (.istore 4, 2) := by decide +kernel
theorem dX9_send_49 : decode cX9_send 49 = .ok (.iconst 0, 1) := by decide +kernel
theorem dX9_send_50 : decode cX9_send 50 = .ok (.istore 5, 2) := by decide +kernel
theorem dX9_send_52 : decode cX9_send 52 = .ok (.iload 5, 2) := by decide +kernel
theorem dX9_send_54 : decode cX9_send 54 = .ok (.iconst 1, 1) := by decide +kernel
theorem dX9_send_55 : decode cX9_send 55 = .ok (.aload_n 0, 1) := by decide +kernel
theorem dX9_send_56 : decode cX9_send 56 = .ok (.getfield 7, 3) := by decide +kernel
theorem dX9_send_59 : decode cX9_send 59 = .ok (.iconst 2, 1) := by decide +kernel
theorem dX9_send_60 : decode cX9_send 60 = .ok (.iaload, 1) := by decide +kernel
theorem dX9_send_61 : decode cX9_send 61 = .ok (.ishl, 1) := by decide +kernel
theorem dX9_send_62 : decode cX9_send 62 = .ok (.if_icmp .ge 128, 3) := by decide +kernel
theorem dX9_send_65 : decode cX9_send 65 = .ok (.iload 5, 2) := by decide +kernel
theorem dX9_send_67 : decode cX9_send 67 = .ok (.aload_n 0, 1) := by decide +kernel
theorem dX9_send_68 : decode cX9_send 68 = .ok (.getfield 7, 3) := by decide +kernel
theorem dX9_send_71 : decode cX9_send 71 = .ok (.iconst 3, 1) := by decide +kernel
theorem dX9_send_72 : decode cX9_send 72 = .ok (.iaload, 1) := by decide +kernel
theorem dX9_send_73 : decode cX9_send 73 = .ok (.iand, 1) := by decide +kernel
theorem dX9_send_74 : decode cX9_send 74 = .ok (.ifCond .ne 26, 3) := by decide +kernel
theorem dX9_send_77 : decode cX9_send 77 = .ok (.iload 4, 2) := by decide +kernel
theorem dX9_send_79 : decode cX9_send 79 = .ok (.iconst (-1), 1) := by decide +kernel
theorem dX9_send_80 : decode cX9_send 80 = .ok (.if_icmp .eq 16, 3) := by decide +kernel
theorem dX9_send_83 : decode cX9_send 83 = .ok (.iload 5, 2) := by decide +kernel
theorem dX9_send_85 : decode cX9_send 85 = .ok (.invokestatic 161, 3) := by decide +kernel
theorem dX9_send_88 : decode cX9_send 88 = .ok (.iload 4, 2) := by decide +kernel
theorem dX9_send_90 : decode cX9_send 90 = .ok (.invokestatic 161, 3) := by decide +kernel
theorem dX9_send_93 : decode cX9_send 93 = .ok (.if_icmp .ge 7, 3) := by decide +kernel
theorem dX9_send_96 : decode cX9_send 96 = .ok (.iconst 1, 1) := by decide +kernel
theorem dX9_send_97 : decode cX9_send 97 = .ok (.goto 4, 3) := by decide +kernel
theorem dX9_send_100 : decode cX9_send 100 = .ok (.iconst 0, 1) := by decide +kernel
theorem dX9_send_101 : decode cX9_send 101 = .ok (.istore 6, 2) := by decide +kernel
theorem dX9_send_103 : decode cX9_send 103 = .ok (.iload 6, 2) := by decide +kernel
theorem dX9_send_105 : decode cX9_send 105 = .ok (.ifCond .eq 79, 3) := by decide +kernel
theorem dX9_send_108 : decode cX9_send 108 = .ok (.aload_n 0, 1) := by decide +kernel
theorem dX9_send_109 : decode cX9_send 109 = .ok (.iload 5, 2) := by decide +kernel
theorem dX9_send_111 : decode cX9_send 111 = .ok (.aload_n 0, 1) := by decide +kernel
theorem dX9_send_112 : decode cX9_send 112 = .ok (.getfield 7, 3) := by decide +kernel
theorem dX9_send_115 : decode cX9_send 115 = .ok (.iconst 3, 1) := by decide +kernel
theorem dX9_send_116 : decode cX9_send 116 = .ok (.iaload, 1) := by decide +kernel
theorem dX9_send_117 : decode cX9_send 117 = .ok (.ior, 1) := by decide +kernel
theorem dX9_send_118 : decode cX9_send 118 = .ok (.iload_n 1, 1) := by decide +kernel
theorem dX9_send_119 : decode cX9_send 119 = .ok (.invokevirtual 172, 3) := by decide +kernel
theorem dX9_send_122 : decode cX9_send 122 = .ok (.ifCond .eq 62, 3) := by decide +kernel
theorem dX9_send_125 : decode cX9_send 125 = .ok (.iload_n 3, 1) := by decide +kernel
theorem dX9_send_126 : decode cX9_send 126 = .ok (.ifCond .ne 24, 3) := by decide +kernel
theorem dX9_send_129 : decode cX9_send 129 = .ok (.aload_n 0, 1) := by decide +kernel
theorem dX9_send_130 : decode cX9_send 130 = .ok (.getfield 166, 3) := by decide +kernel
theorem dX9_send_133 : decode cX9_send 133 = .ok (.iload_n 2, 1) := by decide +kernel
theorem dX9_send_134 : decode cX9_send 134 = .ok (.aload_n 0, 1) := by decide +kernel
theorem dX9_send_135 : decode cX9_send 135 = .ok (.getfield 169, 3) := by decide +kernel
theorem dX9_send_138 : decode cX9_send 138 = .ok (.imul, 1) := by decide +kernel
theorem dX9_send_139 : decode cX9_send 139 = .ok (.if_icmp .gt 7, 3) := by decide +kernel
theorem dX9_send_142 : decode cX9_send 142 = .ok (.iconst 1, 1) := by decide +kernel
theorem dX9_send_143 : decode cX9_send 143 = .ok (.goto 25, 3) := by decide +kernel
theorem dX9_send_146 : decode cX9_send 146 = .ok (.iconst 0, 1) := by decide +kernel
theorem dX9_send_147 : decode cX9_send 147 = .ok (.goto 21, 3) := by decide +kernel
theorem dX9_send_150 : decode cX9_send 150 = .ok (.aload_n 0, 1) := by decide +kernel
theorem dX9_send_151 : decode cX9_send 151 = .ok (.getfield 166, 3) := by decide +kernel
theorem dX9_send_154 : decode cX9_send 154 = .ok (.iload_n 2, 1) := by decide +kernel
theorem dX9_send_155 : decode cX9_send 155 = .ok (.aload_n 0, 1) := by decide +kernel
theorem dX9_send_156 : decode cX9_send 156 = .ok (.getfield 169, 3) := by decide +kernel
theorem dX9_send_159 : decode cX9_send 159 = .ok (.imul, 1) := by decide +kernel
theorem dX9_send_160 : decode cX9_send 160 = .ok (.if_icmp .lt 7, 3) := by decide +kernel
theorem dX9_send_163 : decode cX9_send 163 = .ok (.iconst 1, 1) := by decide +kernel
theorem dX9_send_164 : decode cX9_send 164 = .ok (.goto 4, 3) := by decide +kernel
theorem dX9_send_167 : decode cX9_send 167 = .ok (.iconst 0, 1) := by decide +kernel
theorem dX9_send_168 : decode cX9_send 168 = .ok (.istore 7, 2) := by decide +kernel
theorem dX9_send_170 : decode cX9_send 170 = .ok (.iload 7, 2) := by decide +kernel
theorem dX9_send_172 : decode cX9_send 172 = .ok (.ifCond .eq 8, 3) := by decide +kernel
theorem dX9_send_175 : decode cX9_send 175 = .ok (.iload 5, 2) := by decide +kernel
theorem dX9_send_177 : decode cX9_send 177 = .ok (.goto 5, 3) := by decide +kernel
theorem dX9_send_180 : decode cX9_send 180 = .ok (.iload 4, 2) := by decide +kernel
theorem dX9_send_182 : decode cX9_send 182 = .ok (.istore 4, 2) := by decide +kernel
theorem dX9_send_184 : decode cX9_send 184 = .ok (.iinc 5 1, 3) := by decide +kernel
theorem dX9_send_187 : decode cX9_send 187 = .ok (.goto (-135), 3) := by decide +kernel
theorem dX9_send_190 : decode cX9_send 190 = .ok (.iload 4, 2) := by decide +kernel
theorem dX9_send_192 : decode cX9_send 192 = .ok (.ireturn, 1) := by decide +kernel
theorem dX9_layTurns_0 : decode cX9_layTurns 0 = .ok (.iconst 1, 1) := by decide +kernel
theorem dX9_layTurns_1 : decode cX9_layTurns 1 = .ok (.aload_n 0, 1) := by decide +kernel
theorem dX9_layTurns_2 : decode cX9_layTurns 2 = .ok (.getfield 7, 3) := by decide +kernel
theorem dX9_layTurns_5 : decode cX9_layTurns 5 = .ok (.iconst 2, 1) := by decide +kernel
theorem dX9_layTurns_6 : decode cX9_layTurns 6 = .ok (.iaload, 1) := by decide +kernel
theorem dX9_layTurns_7 : decode cX9_layTurns 7 = .ok (.ishl, 1) := by decide +kernel
theorem dX9_layTurns_8 : decode cX9_layTurns 8 = .ok (.iconst 1, 1) := by decide +kernel
theorem dX9_layTurns_9 : decode cX9_layTurns 9 = .ok (.isub, 1) := by decide +kernel
theorem dX9_layTurns_10 : decode cX9_layTurns 10 = .ok (.istore_n 2, 1) := by decide +kernel
theorem dX9_layTurns_11 : decode cX9_layTurns 11 = .ok (.iload_n 2, 1) := by decide +kernel
theorem dX9_layTurns_12 : decode cX9_layTurns 12 = .ok (.ifCond .lt 212, 3) := by decide +kernel
theorem dX9_layTurns_15 : decode cX9_layTurns 15 = .ok (.iconst 0, 1) := by decide +kernel
theorem dX9_layTurns_16 : decode cX9_layTurns 16 = .ok (.istore_n 3, 1) := by decide +kernel
theorem dX9_layTurns_17 : decode cX9_layTurns 17 = .ok (.iload_n 3, 1) := by decide +kernel
theorem dX9_layTurns_18 : decode cX9_layTurns 18 = .ok (.iconst 2, 1) := by decide +kernel
theorem dX9_layTurns_19 : decode cX9_layTurns 19 = .ok (.if_icmp .ge 199, 3) := by decide +kernel
theorem dX9_layTurns_22 : decode cX9_layTurns 22 = .ok (.aload_n 0, 1) := by decide +kernel
theorem dX9_layTurns_23 : decode cX9_layTurns 23 = .ok (.iload_n 2, 1) := by decide +kernel
theorem dX9_layTurns_24 : decode cX9_layTurns 24 = .ok (.iload_n 1, 1) := by decide +kernel
theorem dX9_layTurns_25 : decode cX9_layTurns 25 = .ok (.invokevirtual 180, 3) := by decide +kernel
theorem dX9_layTurns_28 : decode cX9_layTurns 28 = .ok (.aload_n 0, 1) := by decide +kernel
theorem dX9_layTurns_29 : decode cX9_layTurns 29 = .ok (.getfield 166, 3) := by decide +kernel
theorem dX9_layTurns_32 : decode cX9_layTurns 32 = .ok (.istore 4, 2) := by decide +kernel
theorem dX9_layTurns_34 : decode cX9_layTurns 34 = .ok (.aload_n 0, 1) := by decide +kernel
theorem dX9_layTurns_35 : decode cX9_layTurns 35 = .ok (.getfield 169, 3) := by decide +kernel
theorem dX9_layTurns_38 : decode cX9_layTurns 38 = .ok (.istore 5, 2) := by decide +kernel
theorem dX9_layTurns_40 : decode cX9_layTurns 40 = .ok (.iconst (-1), 1) := by decide +kernel
theorem dX9_layTurns_41 : decode cX9_layTurns 41 = .ok (.istore 6, 2) := by decide +kernel
theorem dX9_layTurns_43 : decode cX9_layTurns 43 = .ok (.iconst 0, 1) := by decide +kernel
theorem dX9_layTurns_44 : decode cX9_layTurns 44 = .ok (.istore 7, 2) := by decide +kernel
theorem dX9_layTurns_46 : decode cX9_layTurns 46 = .ok (.iload 7, 2) := by decide +kernel
theorem dX9_layTurns_48 : decode cX9_layTurns 48 = .ok (.aload_n 0, 1) := by decide +kernel
theorem dX9_layTurns_49 : decode cX9_layTurns 49 = .ok (.getfield 7, 3) := by decide +kernel
theorem dX9_layTurns_52 : decode cX9_layTurns 52 = .ok (.iconst 2, 1) := by decide +kernel
theorem dX9_layTurns_53 : decode cX9_layTurns 53 = .ok (.iaload, 1) := by decide +kernel
theorem dX9_layTurns_54 : decode cX9_layTurns 54 = .ok (.if_icmp .ge 122, 3) := by decide +kernel
theorem dX9_layTurns_57 : decode cX9_layTurns 57 = .ok (.iload_n 2, 1) := by decide +kernel
theorem dX9_layTurns_58 : decode cX9_layTurns 58 = .ok (.iload 7, 2) := by decide +kernel
theorem dX9_layTurns_60 : decode cX9_layTurns 60 = .ok (.ishr, 1) := by decide +kernel
theorem dX9_layTurns_61 : decode cX9_layTurns 61 = .ok (.iconst 1, 1) := by decide +kernel
theorem dX9_layTurns_62 : decode cX9_layTurns 62 = .ok (.iand, 1) := by decide +kernel
theorem dX9_layTurns_63 : decode cX9_layTurns 63 = .ok (.ifCond .ne 107, 3) := by decide +kernel
theorem dX9_layTurns_66 : decode cX9_layTurns 66 = .ok (.iconst 2, 1) := by decide +kernel
theorem dX9_layTurns_67 : decode cX9_layTurns 67 = .ok (.iload_n 2, 1) := by decide +kernel
theorem dX9_layTurns_68 : decode cX9_layTurns 68 = .ok (.iconst 1, 1) := by decide +kernel
theorem dX9_layTurns_69 : decode cX9_layTurns 69 = .ok (.iload 7, 2) := by decide +kernel
theorem dX9_layTurns_71 : decode cX9_layTurns 71 = .ok (.ishl, 1) := by decide +kernel
theorem dX9_layTurns_72 : decode cX9_layTurns 72 = .ok (.ior, 1) := by decide +kernel
theorem dX9_layTurns_73 : decode cX9_layTurns 73 = .ok (.imul, 1) := by decide +kernel
theorem dX9_layTurns_74 : decode cX9_layTurns 74 = .ok (.iconst 1, 1) := by decide +kernel
theorem dX9_layTurns_75 : decode cX9_layTurns 75 = .ok (.iadd, 1) := by decide +kernel
theorem dX9_layTurns_76 : decode cX9_layTurns 76 = .ok (.iload_n 3, 1) := by decide +kernel
theorem dX9_layTurns_77 : decode cX9_layTurns 77 = .ok (.isub, 1) := by decide +kernel
theorem dX9_layTurns_78 : decode cX9_layTurns 78 = .ok (.istore 8, 2) := by decide +kernel
theorem dX9_layTurns_80 : decode cX9_layTurns 80 = .ok (.aload_n 0, 1) := by decide +kernel
theorem dX9_layTurns_81 : decode cX9_layTurns 81 = .ok (.getfield 35, 3) := by decide +kernel
theorem dX9_layTurns_84 : decode cX9_layTurns 84 = .ok (.iload 8, 2) := by decide +kernel
theorem dX9_layTurns_86 : decode cX9_layTurns 86 = .ok (.iaload, 1) := by decide +kernel
theorem dX9_layTurns_87 : decode cX9_layTurns 87 = .ok (.iload 5, 2) := by decide +kernel
theorem dX9_layTurns_89 : decode cX9_layTurns 89 = .ok (.imul, 1) := by decide +kernel
theorem dX9_layTurns_90 : decode cX9_layTurns 90 = .ok (.iload 4, 2) := by decide +kernel
theorem dX9_layTurns_92 : decode cX9_layTurns 92 = .ok (.aload_n 0, 1) := by decide +kernel
theorem dX9_layTurns_93 : decode cX9_layTurns 93 = .ok (.getfield 38, 3) := by decide +kernel
theorem dX9_layTurns_96 : decode cX9_layTurns 96 = .ok (.iload 8, 2) := by decide +kernel
theorem dX9_layTurns_98 : decode cX9_layTurns 98 = .ok (.iaload, 1) := by decide +kernel
theorem dX9_layTurns_99 : decode cX9_layTurns 99 = .ok (.imul, 1) := by decide +kernel
theorem dX9_layTurns_100 : decode cX9_layTurns 100 = .ok (.isub, 1) := by decide +kernel
theorem dX9_layTurns_101 : decode cX9_layTurns 101 = .ok (.istore 9, 2) := by decide +kernel
theorem dX9_layTurns_103 : decode cX9_layTurns 103 = .ok (.iload_n 3, 1) := by decide +kernel
theorem dX9_layTurns_104 : decode cX9_layTurns 104 = .ok (.ifCond .ne 16, 3) := by decide +kernel
theorem dX9_layTurns_107 : decode cX9_layTurns 107 = .ok (.iload 9, 2) := by decide +kernel
theorem dX9_layTurns_109 : decode cX9_layTurns 109 = .ok (.ifCond .ge 7, 3) := by decide +kernel
theorem dX9_layTurns_112 : decode cX9_layTurns 112 = .ok (.iconst 1, 1) := by decide +kernel
theorem dX9_layTurns_113 : decode cX9_layTurns 113 = .ok (.goto 17, 3) := by decide +kernel
theorem dX9_layTurns_116 : decode cX9_layTurns 116 = .ok (.iconst 0, 1) := by decide +kernel
theorem dX9_layTurns_117 : decode cX9_layTurns 117 = .ok (.goto 13, 3) := by decide +kernel
theorem dX9_layTurns_120 : decode cX9_layTurns 120 = .ok (.iload 9, 2) := by decide +kernel
theorem dX9_layTurns_122 : decode cX9_layTurns 122 = .ok (.ifCond .le 7, 3) := by decide +kernel
theorem dX9_layTurns_125 : decode cX9_layTurns 125 = .ok (.iconst 1, 1) := by decide +kernel
theorem dX9_layTurns_126 : decode cX9_layTurns 126 = .ok (.goto 4, 3) := by decide +kernel
theorem dX9_layTurns_129 : decode cX9_layTurns 129 = .ok (.iconst 0, 1) := by decide +kernel
theorem dX9_layTurns_130 : decode cX9_layTurns 130 = .ok (.istore 10, 2) := by decide +kernel
theorem dX9_layTurns_132 : decode cX9_layTurns 132 = .ok (.iload 10, 2) := by decide +kernel
theorem dX9_layTurns_134 : decode cX9_layTurns 134 = .ok (.ifCond .ne 14, 3) := by decide +kernel
theorem dX9_layTurns_137 : decode cX9_layTurns 137 = .ok (.iload 9, 2) := by decide +kernel
theorem dX9_layTurns_139 : decode cX9_layTurns 139 = .ok (.ifCond .ne 31, 3) := by decide +kernel
theorem dX9_layTurns_142 : decode cX9_layTurns 142 = .ok (.iload 6, 2) := by decide +kernel
theorem dX9_layTurns_144 : decode cX9_layTurns 144 = .ok (.iconst (-1), 1) := by decide +kernel
theorem dX9_layTurns_145 : decode cX9_layTurns 145 = .ok (.if_icmp .ne 25, 3) := by decide +kernel
theorem dX9_layTurns_148 : decode cX9_layTurns 148 = .ok (.aload_n 0, 1) := by decide +kernel
theorem dX9_layTurns_149 : decode cX9_layTurns 149 = .ok (.getfield 35, 3) := by decide +kernel
theorem dX9_layTurns_152 : decode cX9_layTurns 152 = .ok (.iload 8, 2) := by decide +kernel
theorem dX9_layTurns_154 : decode cX9_layTurns 154 = .ok (.iaload, 1) := by decide +kernel
theorem dX9_layTurns_155 : decode cX9_layTurns 155 = .ok (.istore 4, 2) := by decide +kernel
theorem dX9_layTurns_157 : decode cX9_layTurns 157 = .ok (.aload_n 0, 1) := by decide +kernel
theorem dX9_layTurns_158 : decode cX9_layTurns 158 = .ok (.getfield 38, 3) := by decide +kernel
theorem dX9_layTurns_161 : decode cX9_layTurns 161 = .ok (.iload 8, 2) := by decide +kernel
theorem dX9_layTurns_163 : decode cX9_layTurns 163 = .ok (.iaload, 1) := by decide +kernel
theorem dX9_layTurns_164 : decode cX9_layTurns 164 = .ok (.istore 5, 2) := by decide +kernel
theorem dX9_layTurns_166 : decode cX9_layTurns 166 = .ok (.iload 7, 2) := by decide +kernel
theorem dX9_layTurns_168 : decode cX9_layTurns 168 = .ok (.istore 6, 2) := by decide +kernel
theorem dX9_layTurns_170 : decode cX9_layTurns 170 = .ok (.iinc 7 1, 3) := by decide +kernel
theorem dX9_layTurns_173 : decode cX9_layTurns 173 = .ok (.goto (-127), 3) := by decide +kernel
theorem dX9_layTurns_176 : decode cX9_layTurns 176 = .ok (.aload_n 0, 1) := by decide +kernel
theorem dX9_layTurns_177 : decode cX9_layTurns 177 = .ok (.getfield 35, 3) := by decide +kernel
theorem dX9_layTurns_180 : decode cX9_layTurns 180 = .ok (.iconst 2, 1) := by decide +kernel
theorem dX9_layTurns_181 : decode cX9_layTurns 181 = .ok (.iload_n 2, 1) := by decide +kernel
theorem dX9_layTurns_182 : decode cX9_layTurns 182 = .ok (.imul, 1) := by decide +kernel
theorem dX9_layTurns_183 : decode cX9_layTurns 183 = .ok (.iload_n 3, 1) := by decide +kernel
theorem dX9_layTurns_184 : decode cX9_layTurns 184 = .ok (.iadd, 1) := by decide +kernel
theorem dX9_layTurns_185 : decode cX9_layTurns 185 = .ok (.iload 4, 2) := by decide +kernel
theorem dX9_layTurns_187 : decode cX9_layTurns 187 = .ok (.iastore, 1) := by decide +kernel
theorem dX9_layTurns_188 : decode cX9_layTurns 188 = .ok (.aload_n 0, 1) := by decide +kernel
theorem dX9_layTurns_189 : decode cX9_layTurns 189 = .ok (.getfield 38, 3) := by decide +kernel
theorem dX9_layTurns_192 : decode cX9_layTurns 192 = .ok (.iconst 2, 1) := by decide +kernel
theorem dX9_layTurns_193 : decode cX9_layTurns 193 = .ok (.iload_n 2, 1) := by decide +kernel
theorem dX9_layTurns_194 : decode cX9_layTurns 194 = .ok (.imul, 1) := by decide +kernel
theorem dX9_layTurns_195 : decode cX9_layTurns 195 = .ok (.iload_n 3, 1) := by decide +kernel
theorem dX9_layTurns_196 : decode cX9_layTurns 196 = .ok (.iadd, 1) := by decide +kernel
theorem dX9_layTurns_197 : decode cX9_layTurns 197 = .ok (.iload 5, 2) := by decide +kernel
theorem dX9_layTurns_199 : decode cX9_layTurns 199 = .ok (.iastore, 1) := by decide +kernel
theorem dX9_layTurns_200 : decode cX9_layTurns 200 = .ok (.aload_n 0, 1) := by decide +kernel
theorem dX9_layTurns_201 : decode cX9_layTurns 201 = .ok (.getfield 41, 3) := by decide +kernel
theorem dX9_layTurns_204 : decode cX9_layTurns 204 = .ok (.iconst 2, 1) := by decide +kernel
theorem dX9_layTurns_205 : decode cX9_layTurns 205 = .ok (.iload_n 2, 1) := by decide +kernel
theorem dX9_layTurns_206 : decode cX9_layTurns 206 = .ok (.imul, 1) := by decide +kernel
theorem dX9_layTurns_207 : decode cX9_layTurns 207 = .ok (.iload_n 3, 1) := by decide +kernel
theorem dX9_layTurns_208 : decode cX9_layTurns 208 = .ok (.iadd, 1) := by decide +kernel
theorem dX9_layTurns_209 : decode cX9_layTurns 209 = .ok (.iload 6, 2) := by decide +kernel
theorem dX9_layTurns_211 : decode cX9_layTurns 211 = .ok (.iastore, 1) := by decide +kernel
theorem dX9_layTurns_212 : decode cX9_layTurns 212 = .ok (.iinc 3 1, 3) := by decide +kernel
theorem dX9_layTurns_215 : decode cX9_layTurns 215 = .ok (.goto (-198), 3) := by decide +kernel
theorem dX9_layTurns_218 : decode cX9_layTurns 218 = .ok (.iinc 2 (-1), 3) := by decide +kernel
theorem dX9_layTurns_221 : decode cX9_layTurns 221 = .ok (.goto (-210), 3) := by decide +kernel
theorem dX9_layTurns_224 : decode cX9_layTurns 224 = .ok (.return_, 1) := by decide +kernel
theorem dX9_turns_0 : decode cX9_turns 0 = .ok (.aload_n 0, 1) := by decide +kernel
theorem dX9_turns_1 : decode cX9_turns 1 = .ok (.iconst 0, 1) := by decide +kernel
theorem dX9_turns_2 : decode cX9_turns 2 = .ok (.putfield 48, 3) := by decide +kernel
theorem dX9_turns_5 : decode cX9_turns 5 = .ok (.iload_n 1, 1) := by decide +kernel
theorem dX9_turns_6 : decode cX9_turns 6 = .ok (.i2l, 1) := by decide +kernel
theorem dX9_turns_7 : decode cX9_turns 7 = .ok (.lconst 1, 1) := by decide +kernel
theorem dX9_turns_8 : decode cX9_turns 8 = .ok (.ldc2_w 164, 3) := by decide +kernel
theorem dX9_turns_11 : decode cX9_turns 11 = .ok (.invokestatic 52, 3) := by decide +kernel
theorem dX9_turns_14 : decode cX9_turns 14 = .ok (.ifCond .eq 15, 3) := by decide +kernel
theorem dX9_turns_17 : decode cX9_turns 17 = .ok (.iload_n 2, 1) := by decide +kernel
theorem dX9_turns_18 : decode cX9_turns 18 = .ok (.i2l, 1) := by decide +kernel
theorem dX9_turns_19 : decode cX9_turns 19 = .ok (.lconst 0, 1) := by decide +kernel
theorem dX9_turns_20 : decode cX9_turns 20 = .ok (.ldc2_w 184, 3) := by decide +kernel
theorem dX9_turns_23 : decode cX9_turns 23 = .ok (.invokestatic 52, 3) := by decide +kernel
theorem dX9_turns_26 : decode cX9_turns 26 = .ok (.ifCond .ne 6, 3) := by decide +kernel
theorem dX9_turns_29 : decode cX9_turns 29 = .ok (.bipush (-3), 2) := by decide +kernel
theorem dX9_turns_31 : decode cX9_turns 31 = .ok (.ireturn, 1) := by decide +kernel
theorem dX9_turns_32 : decode cX9_turns 32 = .ok (.aload_n 0, 1) := by decide +kernel
theorem dX9_turns_33 : decode cX9_turns 33 = .ok (.iload_n 1, 1) := by decide +kernel
theorem dX9_turns_34 : decode cX9_turns 34 = .ok (.invokevirtual 186, 3) := by decide +kernel
theorem dX9_turns_37 : decode cX9_turns 37 = .ok (.iconst 2, 1) := by decide +kernel
theorem dX9_turns_38 : decode cX9_turns 38 = .ok (.aload_n 0, 1) := by decide +kernel
theorem dX9_turns_39 : decode cX9_turns 39 = .ok (.getfield 7, 3) := by decide +kernel
theorem dX9_turns_42 : decode cX9_turns 42 = .ok (.iconst 3, 1) := by decide +kernel
theorem dX9_turns_43 : decode cX9_turns 43 = .ok (.iaload, 1) := by decide +kernel
theorem dX9_turns_44 : decode cX9_turns 44 = .ok (.imul, 1) := by decide +kernel
theorem dX9_turns_45 : decode cX9_turns 45 = .ok (.istore_n 3, 1) := by decide +kernel
theorem dX9_turns_46 : decode cX9_turns 46 = .ok (.iload_n 2, 1) := by decide +kernel
theorem dX9_turns_47 : decode cX9_turns 47 = .ok (.iconst 2, 1) := by decide +kernel
theorem dX9_turns_48 : decode cX9_turns 48 = .ok (.if_icmp .ne 10, 3) := by decide +kernel
theorem dX9_turns_51 : decode cX9_turns 51 = .ok (.aload_n 0, 1) := by decide +kernel
theorem dX9_turns_52 : decode cX9_turns 52 = .ok (.getfield 41, 3) := by decide +kernel
theorem dX9_turns_55 : decode cX9_turns 55 = .ok (.iload_n 3, 1) := by decide +kernel
theorem dX9_turns_56 : decode cX9_turns 56 = .ok (.iaload, 1) := by decide +kernel
theorem dX9_turns_57 : decode cX9_turns 57 = .ok (.ireturn, 1) := by decide +kernel
theorem dX9_turns_58 : decode cX9_turns 58 = .ok (.aload_n 0, 1) := by decide +kernel
theorem dX9_turns_59 : decode cX9_turns 59 = .ok (.getfield 35, 3) := by decide +kernel
theorem dX9_turns_62 : decode cX9_turns 62 = .ok (.iload_n 3, 1) := by decide +kernel
theorem dX9_turns_63 : decode cX9_turns 63 = .ok (.iaload, 1) := by decide +kernel
theorem dX9_turns_64 : decode cX9_turns 64 = .ok (.i2l, 1) := by decide +kernel
theorem dX9_turns_65 : decode cX9_turns 65 = .ok (.aload_n 0, 1) := by decide +kernel
theorem dX9_turns_66 : decode cX9_turns 66 = .ok (.getfield 38, 3) := by decide +kernel
theorem dX9_turns_69 : decode cX9_turns 69 = .ok (.iload_n 3, 1) := by decide +kernel
theorem dX9_turns_70 : decode cX9_turns 70 = .ok (.iaload, 1) := by decide +kernel
theorem dX9_turns_71 : decode cX9_turns 71 = .ok (.i2l, 1) := by decide +kernel
theorem dX9_turns_72 : decode cX9_turns 72 = .ok (.invokestatic 176, 3) := by decide +kernel
theorem dX9_turns_75 : decode cX9_turns 75 = .ok (.l2i, 1) := by decide +kernel
theorem dX9_turns_76 : decode cX9_turns 76 = .ok (.istore 4, 2) := by decide +kernel
theorem dX9_turns_78 : decode cX9_turns 78 = .ok (.iload_n 2, 1) := by decide +kernel
theorem dX9_turns_79 : decode cX9_turns 79 = .ok (.ifCond .ne 12, 3) := by decide +kernel
theorem dX9_turns_82 : decode cX9_turns 82 = .ok (.aload_n 0, 1) := by decide +kernel
theorem dX9_turns_83 : decode cX9_turns 83 = .ok (.getfield 35, 3) := by decide +kernel
theorem dX9_turns_86 : decode cX9_turns 86 = .ok (.iload_n 3, 1) := by decide +kernel
theorem dX9_turns_87 : decode cX9_turns 87 = .ok (.iaload, 1) := by decide +kernel
theorem dX9_turns_88 : decode cX9_turns 88 = .ok (.goto 9, 3) := by decide +kernel
theorem dX9_turns_91 : decode cX9_turns 91 = .ok (.aload_n 0, 1) := by decide +kernel
theorem dX9_turns_92 : decode cX9_turns 92 = .ok (.getfield 38, 3) := by decide +kernel
theorem dX9_turns_95 : decode cX9_turns 95 = .ok (.iload_n 3, 1) := by decide +kernel
theorem dX9_turns_96 : decode cX9_turns 96 = .ok (.iaload, 1) := by decide +kernel
theorem dX9_turns_97 : decode cX9_turns 97 = .ok (.iload 4, 2) := by decide +kernel
theorem dX9_turns_99 : decode cX9_turns 99 = .ok (.idiv, 1) := by decide +kernel
theorem dX9_turns_100 : decode cX9_turns 100 = .ok (.ireturn, 1) := by decide +kernel
theorem dX9_seen_0 : decode cX9_seen 0 = .ok (.aload_n 0, 1) := by decide +kernel
theorem dX9_seen_1 : decode cX9_seen 1 = .ok (.iconst 0, 1) := by decide +kernel
theorem dX9_seen_2 : decode cX9_seen 2 = .ok (.putfield 48, 3) := by decide +kernel
theorem dX9_seen_5 : decode cX9_seen 5 = .ok (.aload_n 0, 1) := by decide +kernel
theorem dX9_seen_6 : decode cX9_seen 6 = .ok (.iload_n 1, 1) := by decide +kernel
theorem dX9_seen_7 : decode cX9_seen 7 = .ok (.invokevirtual 142, 3) := by decide +kernel
theorem dX9_seen_10 : decode cX9_seen 10 = .ok (.ifCond .ne 6, 3) := by decide +kernel
theorem dX9_seen_13 : decode cX9_seen 13 = .ok (.bipush (-2), 2) := by decide +kernel
theorem dX9_seen_15 : decode cX9_seen 15 = .ok (.ireturn, 1) := by decide +kernel
theorem dX9_seen_16 : decode cX9_seen 16 = .ok (.iload_n 2, 1) := by decide +kernel
theorem dX9_seen_17 : decode cX9_seen 17 = .ok (.i2l, 1) := by decide +kernel
theorem dX9_seen_18 : decode cX9_seen 18 = .ok (.lconst 1, 1) := by decide +kernel
theorem dX9_seen_19 : decode cX9_seen 19 = .ok (.ldc2_w 164, 3) := by decide +kernel
theorem dX9_seen_22 : decode cX9_seen 22 = .ok (.invokestatic 52, 3) := by decide +kernel
theorem dX9_seen_25 : decode cX9_seen 25 = .ok (.ifCond .eq 19, 3) := by decide +kernel
theorem dX9_seen_28 : decode cX9_seen 28 = .ok (.iload_n 3, 1) := by decide +kernel
theorem dX9_seen_29 : decode cX9_seen 29 = .ok (.i2l, 1) := by decide +kernel
theorem dX9_seen_30 : decode cX9_seen 30 = .ok (.lconst 0, 1) := by decide +kernel
theorem dX9_seen_31 : decode cX9_seen 31 = .ok (.aload_n 0, 1) := by decide +kernel
theorem dX9_seen_32 : decode cX9_seen 32 = .ok (.getfield 7, 3) := by decide +kernel
theorem dX9_seen_35 : decode cX9_seen 35 = .ok (.iconst 0, 1) := by decide +kernel
theorem dX9_seen_36 : decode cX9_seen 36 = .ok (.iaload, 1) := by decide +kernel
theorem dX9_seen_37 : decode cX9_seen 37 = .ok (.i2l, 1) := by decide +kernel
theorem dX9_seen_38 : decode cX9_seen 38 = .ok (.invokestatic 52, 3) := by decide +kernel
theorem dX9_seen_41 : decode cX9_seen 41 = .ok (.ifCond .ne 6, 3) := by decide +kernel
theorem dX9_seen_44 : decode cX9_seen 44 = .ok (.bipush (-3), 2) := by decide +kernel
theorem dX9_seen_46 : decode cX9_seen 46 = .ok (.ireturn, 1) := by decide +kernel
theorem dX9_seen_47 : decode cX9_seen 47 = .ok (.aload_n 0, 1) := by decide +kernel
theorem dX9_seen_48 : decode cX9_seen 48 = .ok (.getfield 128, 3) := by decide +kernel
theorem dX9_seen_51 : decode cX9_seen 51 = .ok (.bipush 6, 2) := by decide +kernel
theorem dX9_seen_53 : decode cX9_seen 53 = .ok (.if_icmp .ne 6, 3) := by decide +kernel
theorem dX9_seen_56 : decode cX9_seen 56 = .ok (.bipush (-5), 2) := by decide +kernel
theorem dX9_seen_58 : decode cX9_seen 58 = .ok (.ireturn, 1) := by decide +kernel
theorem dX9_seen_59 : decode cX9_seen 59 = .ok (.aload_n 0, 1) := by decide +kernel
theorem dX9_seen_60 : decode cX9_seen 60 = .ok (.getfield 29, 3) := by decide +kernel
theorem dX9_seen_63 : decode cX9_seen 63 = .ok (.iconst 3, 1) := by decide +kernel
theorem dX9_seen_64 : decode cX9_seen 64 = .ok (.aload_n 0, 1) := by decide +kernel
theorem dX9_seen_65 : decode cX9_seen 65 = .ok (.getfield 128, 3) := by decide +kernel
theorem dX9_seen_68 : decode cX9_seen 68 = .ok (.imul, 1) := by decide +kernel
theorem dX9_seen_69 : decode cX9_seen 69 = .ok (.iload_n 1, 1) := by decide +kernel
theorem dX9_seen_70 : decode cX9_seen 70 = .ok (.iastore, 1) := by decide +kernel
theorem dX9_seen_71 : decode cX9_seen 71 = .ok (.aload_n 0, 1) := by decide +kernel
theorem dX9_seen_72 : decode cX9_seen 72 = .ok (.getfield 29, 3) := by decide +kernel
theorem dX9_seen_75 : decode cX9_seen 75 = .ok (.iconst 3, 1) := by decide +kernel
theorem dX9_seen_76 : decode cX9_seen 76 = .ok (.aload_n 0, 1) := by decide +kernel
theorem dX9_seen_77 : decode cX9_seen 77 = .ok (.getfield 128, 3) := by decide +kernel
theorem dX9_seen_80 : decode cX9_seen 80 = .ok (.imul, 1) := by decide +kernel
theorem dX9_seen_81 : decode cX9_seen 81 = .ok (.iconst 1, 1) := by decide +kernel
theorem dX9_seen_82 : decode cX9_seen 82 = .ok (.iadd, 1) := by decide +kernel
theorem dX9_seen_83 : decode cX9_seen 83 = .ok (.iload_n 2, 1) := by decide +kernel
theorem dX9_seen_84 : decode cX9_seen 84 = .ok (.iastore, 1) := by decide +kernel
theorem dX9_seen_85 : decode cX9_seen 85 = .ok (.aload_n 0, 1) := by decide +kernel
theorem dX9_seen_86 : decode cX9_seen 86 = .ok (.getfield 29, 3) := by decide +kernel
theorem dX9_seen_89 : decode cX9_seen 89 = .ok (.iconst 3, 1) := by decide +kernel
theorem dX9_seen_90 : decode cX9_seen 90 = .ok (.aload_n 0, 1) := by decide +kernel
theorem dX9_seen_91 : decode cX9_seen 91 = .ok (.getfield 128, 3) := by decide +kernel
theorem dX9_seen_94 : decode cX9_seen 94 = .ok (.imul, 1) := by decide +kernel
theorem dX9_seen_95 : decode cX9_seen 95 = .ok (.iconst 2, 1) := by decide +kernel
theorem dX9_seen_96 : decode cX9_seen 96 = .ok (.iadd, 1) := by decide +kernel
theorem dX9_seen_97 : decode cX9_seen 97 = .ok (.iload_n 3, 1) := by decide +kernel
theorem dX9_seen_98 : decode cX9_seen 98 = .ok (.iastore, 1) := by decide +kernel
theorem dX9_seen_99 : decode cX9_seen 99 = .ok (.aload_n 0, 1) := by decide +kernel
theorem dX9_seen_100 : decode cX9_seen 100 = .ok (.dup, 1) := by decide +kernel
theorem dX9_seen_101 : decode cX9_seen 101 = .ok (.getfield 128, 3) := by decide +kernel
theorem dX9_seen_104 : decode cX9_seen 104 = .ok (.iconst 1, 1) := by decide +kernel
theorem dX9_seen_105 : decode cX9_seen 105 = .ok (.iadd, 1) := by decide +kernel
theorem dX9_seen_106 : decode cX9_seen 106 = .ok (.putfield 128, 3) := by decide +kernel
theorem dX9_seen_109 : decode cX9_seen 109 = .ok (.aload_n 0, 1) := by decide +kernel
theorem dX9_seen_110 : decode cX9_seen 110 = .ok (.getfield 128, 3) := by decide +kernel
theorem dX9_seen_113 : decode cX9_seen 113 = .ok (.ireturn, 1) := by decide +kernel
theorem dX9_forget_0 : decode cX9_forget 0 = .ok (.aload_n 0, 1) := by decide +kernel
theorem dX9_forget_1 : decode cX9_forget 1 = .ok (.iconst 0, 1) := by decide +kernel
theorem dX9_forget_2 : decode cX9_forget 2 = .ok (.putfield 48, 3) := by decide +kernel
theorem dX9_forget_5 : decode cX9_forget 5 = .ok (.aload_n 0, 1) := by decide +kernel
theorem dX9_forget_6 : decode cX9_forget 6 = .ok (.getfield 128, 3) := by decide +kernel
theorem dX9_forget_9 : decode cX9_forget 9 = .ok (.istore_n 1, 1) := by decide +kernel
theorem dX9_forget_10 : decode cX9_forget 10 = .ok (.aload_n 0, 1) := by decide +kernel
theorem dX9_forget_11 : decode cX9_forget 11 = .ok (.iconst 0, 1) := by decide +kernel
theorem dX9_forget_12 : decode cX9_forget 12 = .ok (.putfield 128, 3) := by decide +kernel
theorem dX9_forget_15 : decode cX9_forget 15 = .ok (.iload_n 1, 1) := by decide +kernel
theorem dX9_forget_16 : decode cX9_forget 16 = .ok (.ireturn, 1) := by decide +kernel
theorem dX9_what_0 : decode cX9_what 0 = .ok (.aload_n 0, 1) := by decide +kernel
theorem dX9_what_1 : decode cX9_what 1 = .ok (.iconst 0, 1) := by decide +kernel
theorem dX9_what_2 : decode cX9_what 2 = .ok (.putfield 48, 3) := by decide +kernel
theorem dX9_what_5 : decode cX9_what 5 = .ok (.aload_n 0, 1) := by decide +kernel
theorem dX9_what_6 : decode cX9_what 6 = .ok (.iload_n 1, 1) := by decide +kernel
theorem dX9_what_7 : decode cX9_what 7 = .ok (.invokevirtual 142, 3) := by decide +kernel
theorem dX9_what_10 : decode cX9_what 10 = .ok (.ifCond .ne 6, 3) := by decide +kernel
theorem dX9_what_13 : decode cX9_what 13 = .ok (.bipush (-2), 2) := by decide +kernel
theorem dX9_what_15 : decode cX9_what 15 = .ok (.ireturn, 1) := by decide +kernel
theorem dX9_what_16 : decode cX9_what 16 = .ok (.iconst 0, 1) := by decide +kernel
theorem dX9_what_17 : decode cX9_what 17 = .ok (.istore_n 2, 1) := by decide +kernel
theorem dX9_what_18 : decode cX9_what 18 = .ok (.iconst 0, 1) := by decide +kernel
theorem dX9_what_19 : decode cX9_what 19 = .ok (.istore_n 3, 1) := by decide +kernel
theorem dX9_what_20 : decode cX9_what 20 = .ok (.iload_n 3, 1) := by decide +kernel
theorem dX9_what_21 : decode cX9_what 21 = .ok (.iconst 3, 1) := by decide +kernel
theorem dX9_what_22 : decode cX9_what 22 = .ok (.if_icmp .gt 115, 3) := by decide +kernel
theorem dX9_what_25 : decode cX9_what 25 = .ok (.iconst 1, 1) := by decide +kernel
theorem dX9_what_26 : decode cX9_what 26 = .ok (.istore 4, 2) := by decide +kernel
theorem dX9_what_28 : decode cX9_what 28 = .ok (.iconst 0, 1) := by decide +kernel
theorem dX9_what_29 : decode cX9_what 29 = .ok (.istore 5, 2) := by decide +kernel
theorem dX9_what_31 : decode cX9_what 31 = .ok (.iload 5, 2) := by decide +kernel
theorem dX9_what_33 : decode cX9_what 33 = .ok (.aload_n 0, 1) := by decide +kernel
theorem dX9_what_34 : decode cX9_what 34 = .ok (.getfield 128, 3) := by decide +kernel
theorem dX9_what_37 : decode cX9_what 37 = .ok (.if_icmp .ge 79, 3) := by decide +kernel
theorem dX9_what_40 : decode cX9_what 40 = .ok (.iload 4, 2) := by decide +kernel
theorem dX9_what_42 : decode cX9_what 42 = .ok (.ifCond .eq 65, 3) := by decide +kernel
theorem dX9_what_45 : decode cX9_what 45 = .ok (.aload_n 0, 1) := by decide +kernel
theorem dX9_what_46 : decode cX9_what 46 = .ok (.getfield 29, 3) := by decide +kernel
theorem dX9_what_49 : decode cX9_what 49 = .ok (.iconst 3, 1) := by decide +kernel
theorem dX9_what_50 : decode cX9_what 50 = .ok (.iload 5, 2) := by decide +kernel
theorem dX9_what_52 : decode cX9_what 52 = .ok (.imul, 1) := by decide +kernel
theorem dX9_what_53 : decode cX9_what 53 = .ok (.iaload, 1) := by decide +kernel
theorem dX9_what_54 : decode cX9_what 54 = .ok (.iload_n 1, 1) := by decide +kernel
theorem dX9_what_55 : decode cX9_what 55 = .ok (.if_icmp .ne 48, 3) := by decide +kernel
theorem dX9_what_58 : decode cX9_what 58 = .ok (.aload_n 0, 1) := by decide +kernel
theorem dX9_what_59 : decode cX9_what 59 = .ok (.iload_n 3, 1) := by decide +kernel
theorem dX9_what_60 : decode cX9_what 60 = .ok (.aload_n 0, 1) := by decide +kernel
theorem dX9_what_61 : decode cX9_what 61 = .ok (.getfield 7, 3) := by decide +kernel
theorem dX9_what_64 : decode cX9_what 64 = .ok (.bipush 30, 2) := by decide +kernel
theorem dX9_what_66 : decode cX9_what 66 = .ok (.iload_n 1, 1) := by decide +kernel
theorem dX9_what_67 : decode cX9_what 67 = .ok (.iadd, 1) := by decide +kernel
theorem dX9_what_68 : decode cX9_what 68 = .ok (.iaload, 1) := by decide +kernel
theorem dX9_what_69 : decode cX9_what 69 = .ok (.aload_n 0, 1) := by decide +kernel
theorem dX9_what_70 : decode cX9_what 70 = .ok (.getfield 29, 3) := by decide +kernel
theorem dX9_what_73 : decode cX9_what 73 = .ok (.iconst 3, 1) := by decide +kernel
theorem dX9_what_74 : decode cX9_what 74 = .ok (.iload 5, 2) := by decide +kernel
theorem dX9_what_76 : decode cX9_what 76 = .ok (.imul, 1) := by decide +kernel
theorem dX9_what_77 : decode cX9_what 77 = .ok (.iconst 1, 1) := by decide +kernel
theorem dX9_what_78 : decode cX9_what 78 = .ok (.iadd, 1) := by decide +kernel
theorem dX9_what_79 : decode cX9_what 79 = .ok (.iaload, 1) := by decide +kernel
theorem dX9_what_80 : decode cX9_what 80 = .ok (.aload_n 0, 1) := by decide +kernel
theorem dX9_what_81 : decode cX9_what 81 = .ok (.getfield 7, 3) := by decide +kernel
theorem dX9_what_84 : decode cX9_what 84 = .ok (.iconst 1, 1) := by decide +kernel
theorem dX9_what_85 : decode cX9_what 85 = .ok (.iaload, 1) := by decide +kernel
theorem dX9_what_86 : decode cX9_what 86 = .ok (.invokevirtual 138, 3) := by decide +kernel
theorem dX9_what_89 : decode cX9_what 89 = .ok (.aload_n 0, 1) := by decide +kernel
theorem dX9_what_90 : decode cX9_what 90 = .ok (.getfield 29, 3) := by decide +kernel
theorem dX9_what_93 : decode cX9_what 93 = .ok (.iconst 3, 1) := by decide +kernel
theorem dX9_what_94 : decode cX9_what 94 = .ok (.iload 5, 2) := by decide +kernel
theorem dX9_what_96 : decode cX9_what 96 = .ok (.imul, 1) := by decide +kernel
theorem dX9_what_97 : decode cX9_what 97 = .ok (.iconst 2, 1) := by decide +kernel
theorem dX9_what_98 : decode cX9_what 98 = .ok (.iadd, 1) := by decide +kernel
theorem dX9_what_99 : decode cX9_what 99 = .ok (.iaload, 1) := by decide +kernel
theorem dX9_what_100 : decode cX9_what 100 = .ok (.if_icmp .ne 7, 3) := by decide +kernel
theorem dX9_what_103 : decode cX9_what 103 = .ok (.iconst 1, 1) := by decide +kernel
theorem dX9_what_104 : decode cX9_what 104 = .ok (.goto 4, 3) := by decide +kernel
theorem dX9_what_107 : decode cX9_what 107 = .ok (.iconst 0, 1) := by decide +kernel
theorem dX9_what_108 : decode cX9_what 108 = .ok (.istore 4, 2) := by decide +kernel
theorem dX9_what_110 : decode cX9_what 110 = .ok (.iinc 5 1, 3) := by decide +kernel
theorem dX9_what_113 : decode cX9_what 113 = .ok (.goto (-82), 3) := by decide +kernel
theorem dX9_what_116 : decode cX9_what 116 = .ok (.iload_n 2, 1) := by decide +kernel
theorem dX9_what_117 : decode cX9_what 117 = .ok (.iload 4, 2) := by decide +kernel
theorem dX9_what_119 : decode cX9_what 119 = .ok (.ifCond .eq 9, 3) := by decide +kernel
theorem dX9_what_122 : decode cX9_what 122 = .ok (.iconst 1, 1) := by decide +kernel
theorem dX9_what_123 : decode cX9_what 123 = .ok (.iload_n 3, 1) := by decide +kernel
theorem dX9_what_124 : decode cX9_what 124 = .ok (.ishl, 1) := by decide +kernel
theorem dX9_what_125 : decode cX9_what 125 = .ok (.goto 4, 3) := by decide +kernel
theorem dX9_what_128 : decode cX9_what 128 = .ok (.iconst 0, 1) := by decide +kernel
theorem dX9_what_129 : decode cX9_what 129 = .ok (.ior, 1) := by decide +kernel
theorem dX9_what_130 : decode cX9_what 130 = .ok (.istore_n 2, 1) := by decide +kernel
theorem dX9_what_131 : decode cX9_what 131 = .ok (.iinc 3 1, 3) := by decide +kernel
theorem dX9_what_134 : decode cX9_what 134 = .ok (.goto (-114), 3) := by decide +kernel
theorem dX9_what_137 : decode cX9_what 137 = .ok (.iload_n 2, 1) := by decide +kernel
theorem dX9_what_138 : decode cX9_what 138 = .ok (.ireturn, 1) := by decide +kernel
theorem dX9_miles_0 : decode cX9_miles 0 = .ok (.aload_n 0, 1) := by decide +kernel
theorem dX9_miles_1 : decode cX9_miles 1 = .ok (.iconst 0, 1) := by decide +kernel
theorem dX9_miles_2 : decode cX9_miles 2 = .ok (.putfield 48, 3) := by decide +kernel
theorem dX9_miles_5 : decode cX9_miles 5 = .ok (.iload_n 1, 1) := by decide +kernel
theorem dX9_miles_6 : decode cX9_miles 6 = .ok (.i2l, 1) := by decide +kernel
theorem dX9_miles_7 : decode cX9_miles 7 = .ok (.lconst 0, 1) := by decide +kernel
theorem dX9_miles_8 : decode cX9_miles 8 = .ok (.lconst 1, 1) := by decide +kernel
theorem dX9_miles_9 : decode cX9_miles 9 = .ok (.invokestatic 52, 3) := by decide +kernel
theorem dX9_miles_12 : decode cX9_miles 12 = .ok (.ifCond .ne 6, 3) := by decide +kernel
theorem dX9_miles_15 : decode cX9_miles 15 = .ok (.bipush (-3), 2) := by decide +kernel
theorem dX9_miles_17 : decode cX9_miles 17 = .ok (.ireturn, 1) := by decide +kernel
theorem dX9_miles_18 : decode cX9_miles 18 = .ok (.iconst 0, 1) := by decide +kernel
theorem dX9_miles_19 : decode cX9_miles 19 = .ok (.istore_n 2, 1) := by decide +kernel
theorem dX9_miles_20 : decode cX9_miles 20 = .ok (.iconst (-1), 1) := by decide +kernel
theorem dX9_miles_21 : decode cX9_miles 21 = .ok (.istore_n 3, 1) := by decide +kernel
theorem dX9_miles_22 : decode cX9_miles 22 = .ok (.bipush 40, 2) := by decide +kernel
theorem dX9_miles_24 : decode cX9_miles 24 = .ok (.istore 4, 2) := by decide +kernel
theorem dX9_miles_26 : decode cX9_miles 26 = .ok (.iload 4, 2) := by decide +kernel
theorem dX9_miles_28 : decode cX9_miles 28 = .ok (.ifCond .le 129, 3) := by decide +kernel
theorem dX9_miles_31 : decode cX9_miles 31 = .ok (.iconst 1, 1) := by decide +kernel
theorem dX9_miles_32 : decode cX9_miles 32 = .ok (.istore 5, 2) := by decide +kernel
theorem dX9_miles_34 : decode cX9_miles 34 = .ok (.iconst 0, 1) := by decide +kernel
theorem dX9_miles_35 : decode cX9_miles 35 = .ok (.istore 6, 2) := by decide +kernel
theorem dX9_miles_37 : decode cX9_miles 37 = .ok (.iload 6, 2) := by decide +kernel
theorem dX9_miles_39 : decode cX9_miles 39 = .ok (.aload_n 0, 1) := by decide +kernel
theorem dX9_miles_40 : decode cX9_miles 40 = .ok (.getfield 128, 3) := by decide +kernel
theorem dX9_miles_43 : decode cX9_miles 43 = .ok (.if_icmp .ge 83, 3) := by decide +kernel
theorem dX9_miles_46 : decode cX9_miles 46 = .ok (.aload_n 0, 1) := by decide +kernel
theorem dX9_miles_47 : decode cX9_miles 47 = .ok (.getfield 29, 3) := by decide +kernel
theorem dX9_miles_50 : decode cX9_miles 50 = .ok (.iconst 3, 1) := by decide +kernel
theorem dX9_miles_51 : decode cX9_miles 51 = .ok (.iload 6, 2) := by decide +kernel
theorem dX9_miles_53 : decode cX9_miles 53 = .ok (.imul, 1) := by decide +kernel
theorem dX9_miles_54 : decode cX9_miles 54 = .ok (.iaload, 1) := by decide +kernel
theorem dX9_miles_55 : decode cX9_miles 55 = .ok (.istore 7, 2) := by decide +kernel
theorem dX9_miles_57 : decode cX9_miles 57 = .ok (.iload 5, 2) := by decide +kernel
theorem dX9_miles_59 : decode cX9_miles 59 = .ok (.ifCond .eq 58, 3) := by decide +kernel
theorem dX9_miles_62 : decode cX9_miles 62 = .ok (.aload_n 0, 1) := by decide +kernel
theorem dX9_miles_63 : decode cX9_miles 63 = .ok (.aload_n 0, 1) := by decide +kernel
theorem dX9_miles_64 : decode cX9_miles 64 = .ok (.getfield 7, 3) := by decide +kernel
theorem dX9_miles_67 : decode cX9_miles 67 = .ok (.bipush 24, 2) := by decide +kernel
theorem dX9_miles_69 : decode cX9_miles 69 = .ok (.iload 7, 2) := by decide +kernel
theorem dX9_miles_71 : decode cX9_miles 71 = .ok (.iadd, 1) := by decide +kernel
theorem dX9_miles_72 : decode cX9_miles 72 = .ok (.iaload, 1) := by decide +kernel
theorem dX9_miles_73 : decode cX9_miles 73 = .ok (.aload_n 0, 1) := by decide +kernel
theorem dX9_miles_74 : decode cX9_miles 74 = .ok (.getfield 7, 3) := by decide +kernel
theorem dX9_miles_77 : decode cX9_miles 77 = .ok (.bipush 30, 2) := by decide +kernel
theorem dX9_miles_79 : decode cX9_miles 79 = .ok (.iload 7, 2) := by decide +kernel
theorem dX9_miles_81 : decode cX9_miles 81 = .ok (.iadd, 1) := by decide +kernel
theorem dX9_miles_82 : decode cX9_miles 82 = .ok (.iaload, 1) := by decide +kernel
theorem dX9_miles_83 : decode cX9_miles 83 = .ok (.aload_n 0, 1) := by decide +kernel
theorem dX9_miles_84 : decode cX9_miles 84 = .ok (.getfield 29, 3) := by decide +kernel
theorem dX9_miles_87 : decode cX9_miles 87 = .ok (.iconst 3, 1) := by decide +kernel
theorem dX9_miles_88 : decode cX9_miles 88 = .ok (.iload 6, 2) := by decide +kernel
theorem dX9_miles_90 : decode cX9_miles 90 = .ok (.imul, 1) := by decide +kernel
theorem dX9_miles_91 : decode cX9_miles 91 = .ok (.iconst 1, 1) := by decide +kernel
theorem dX9_miles_92 : decode cX9_miles 92 = .ok (.iadd, 1) := by decide +kernel
theorem dX9_miles_93 : decode cX9_miles 93 = .ok (.iaload, 1) := by decide +kernel
theorem dX9_miles_94 : decode cX9_miles 94 = .ok (.iload 4, 2) := by decide +kernel
theorem dX9_miles_96 : decode cX9_miles 96 = .ok (.invokevirtual 138, 3) := by decide +kernel
theorem dX9_miles_99 : decode cX9_miles 99 = .ok (.aload_n 0, 1) := by decide +kernel
theorem dX9_miles_100 : decode cX9_miles 100 = .ok (.getfield 29, 3) := by decide +kernel
theorem dX9_miles_103 : decode cX9_miles 103 = .ok (.iconst 3, 1) := by decide +kernel
theorem dX9_miles_104 : decode cX9_miles 104 = .ok (.iload 6, 2) := by decide +kernel
theorem dX9_miles_106 : decode cX9_miles 106 = .ok (.imul, 1) := by decide +kernel
theorem dX9_miles_107 : decode cX9_miles 107 = .ok (.iconst 2, 1) := by decide +kernel
theorem dX9_miles_108 : decode cX9_miles 108 = .ok (.iadd, 1) := by decide +kernel
theorem dX9_miles_109 : decode cX9_miles 109 = .ok (.iaload, 1) := by decide +kernel
theorem dX9_miles_110 : decode cX9_miles 110 = .ok (.if_icmp .ne 7, 3) := by decide +kernel
theorem dX9_miles_113 : decode cX9_miles 113 = .ok (.iconst 1, 1) := by decide +kernel
theorem dX9_miles_114 : decode cX9_miles 114 = .ok (.goto 4, 3) := by decide +kernel
theorem dX9_miles_117 : decode cX9_miles 117 = .ok (.iconst 0, 1) := by decide +kernel
theorem dX9_miles_118 : decode cX9_miles 118 = .ok (.istore 5, 2) := by decide +kernel
theorem dX9_miles_120 : decode cX9_miles 120 = .ok (.iinc 6 1, 3) := by decide +kernel
theorem dX9_miles_123 : decode cX9_miles 123 = .ok (.goto (-86), 3) := by decide +kernel
theorem dX9_miles_126 : decode cX9_miles 126 = .ok (.iload_n 2, 1) := by decide +kernel
theorem dX9_miles_127 : decode cX9_miles 127 = .ok (.iload 5, 2) := by decide +kernel
theorem dX9_miles_129 : decode cX9_miles 129 = .ok (.ifCond .eq 7, 3) := by decide +kernel
theorem dX9_miles_132 : decode cX9_miles 132 = .ok (.iconst 1, 1) := by decide +kernel
theorem dX9_miles_133 : decode cX9_miles 133 = .ok (.goto 4, 3) := by decide +kernel
theorem dX9_miles_136 : decode cX9_miles 136 = .ok (.iconst 0, 1) := by decide +kernel
theorem dX9_miles_137 : decode cX9_miles 137 = .ok (.iadd, 1) := by decide +kernel
theorem dX9_miles_138 : decode cX9_miles 138 = .ok (.istore_n 2, 1) := by decide +kernel
theorem dX9_miles_139 : decode cX9_miles 139 = .ok (.iload 5, 2) := by decide +kernel
theorem dX9_miles_141 : decode cX9_miles 141 = .ok (.ifCond .eq 8, 3) := by decide +kernel
theorem dX9_miles_144 : decode cX9_miles 144 = .ok (.iload 4, 2) := by decide +kernel
theorem dX9_miles_146 : decode cX9_miles 146 = .ok (.goto 4, 3) := by decide +kernel
theorem dX9_miles_149 : decode cX9_miles 149 = .ok (.iload_n 3, 1) := by decide +kernel
theorem dX9_miles_150 : decode cX9_miles 150 = .ok (.istore_n 3, 1) := by decide +kernel
theorem dX9_miles_151 : decode cX9_miles 151 = .ok (.iinc 4 (-1), 3) := by decide +kernel
theorem dX9_miles_154 : decode cX9_miles 154 = .ok (.goto (-128), 3) := by decide +kernel
theorem dX9_miles_157 : decode cX9_miles 157 = .ok (.iload_n 1, 1) := by decide +kernel
theorem dX9_miles_158 : decode cX9_miles 158 = .ok (.ifCond .ne 7, 3) := by decide +kernel
theorem dX9_miles_161 : decode cX9_miles 161 = .ok (.iload_n 2, 1) := by decide +kernel
theorem dX9_miles_162 : decode cX9_miles 162 = .ok (.goto 4, 3) := by decide +kernel
theorem dX9_miles_165 : decode cX9_miles 165 = .ok (.iload_n 3, 1) := by decide +kernel
theorem dX9_miles_166 : decode cX9_miles 166 = .ok (.ireturn, 1) := by decide +kernel
theorem dX9_cider_0 : decode cX9_cider 0 = .ok (.aload_n 0, 1) := by decide +kernel
theorem dX9_cider_1 : decode cX9_cider 1 = .ok (.iconst 0, 1) := by decide +kernel
theorem dX9_cider_2 : decode cX9_cider 2 = .ok (.putfield 48, 3) := by decide +kernel
theorem dX9_cider_5 : decode cX9_cider 5 = .ok (.iload_n 1, 1) := by decide +kernel
theorem dX9_cider_6 : decode cX9_cider 6 = .ok (.i2l, 1) := by decide +kernel
theorem dX9_cider_7 : decode cX9_cider 7 = .ok (.lconst 1, 1) := by decide +kernel
theorem dX9_cider_8 : decode cX9_cider 8 = .ok (.ldc2_w 164, 3) := by decide +kernel
theorem dX9_cider_11 : decode cX9_cider 11 = .ok (.invokestatic 52, 3) := by decide +kernel
theorem dX9_cider_14 : decode cX9_cider 14 = .ok (.ifCond .eq 42, 3) := by decide +kernel
theorem dX9_cider_17 : decode cX9_cider 17 = .ok (.iload_n 2, 1) := by decide +kernel
theorem dX9_cider_18 : decode cX9_cider 18 = .ok (.i2l, 1) := by decide +kernel
theorem dX9_cider_19 : decode cX9_cider 19 = .ok (.lconst 0, 1) := by decide +kernel
theorem dX9_cider_20 : decode cX9_cider 20 = .ok (.aload_n 0, 1) := by decide +kernel
theorem dX9_cider_21 : decode cX9_cider 21 = .ok (.getfield 7, 3) := by decide +kernel
theorem dX9_cider_24 : decode cX9_cider 24 = .ok (.iconst 0, 1) := by decide +kernel
theorem dX9_cider_25 : decode cX9_cider 25 = .ok (.iaload, 1) := by decide +kernel
theorem dX9_cider_26 : decode cX9_cider 26 = .ok (.i2l, 1) := by decide +kernel
theorem dX9_cider_27 : decode cX9_cider 27 = .ok (.invokestatic 52, 3) := by decide +kernel
theorem dX9_cider_30 : decode cX9_cider 30 = .ok (.ifCond .eq 26, 3) := by decide +kernel
theorem dX9_cider_33 : decode cX9_cider 33 = .ok (.iload_n 3, 1) := by decide +kernel
theorem dX9_cider_34 : decode cX9_cider 34 = .ok (.i2l, 1) := by decide +kernel
theorem dX9_cider_35 : decode cX9_cider 35 = .ok (.lconst 0, 1) := by decide +kernel
theorem dX9_cider_36 : decode cX9_cider 36 = .ok (.ldc2_w 91, 3) := by decide +kernel
theorem dX9_cider_39 : decode cX9_cider 39 = .ok (.invokestatic 52, 3) := by decide +kernel
theorem dX9_cider_42 : decode cX9_cider 42 = .ok (.ifCond .eq 14, 3) := by decide +kernel
theorem dX9_cider_45 : decode cX9_cider 45 = .ok (.iload 4, 2) := by decide +kernel
theorem dX9_cider_47 : decode cX9_cider 47 = .ok (.i2l, 1) := by decide +kernel
theorem dX9_cider_48 : decode cX9_cider 48 = .ok (.lconst 0, 1) := by decide +kernel
theorem dX9_cider_49 : decode cX9_cider 49 = .ok (.lconst 1, 1) := by decide +kernel
theorem dX9_cider_50 : decode cX9_cider 50 = .ok (.invokestatic 52, 3) := by decide +kernel
theorem dX9_cider_53 : decode cX9_cider 53 = .ok (.ifCond .ne 6, 3) := by decide +kernel
theorem dX9_cider_56 : decode cX9_cider 56 = .ok (.bipush (-3), 2) := by decide +kernel
theorem dX9_cider_58 : decode cX9_cider 58 = .ok (.ireturn, 1) := by decide +kernel
theorem dX9_cider_59 : decode cX9_cider 59 = .ok (.lconst 0, 1) := by decide +kernel
theorem dX9_cider_60 : decode cX9_cider 60 = .ok (.lstore 5, 2) := by decide +kernel
theorem dX9_cider_62 : decode cX9_cider 62 = .ok (.lconst 0, 1) := by decide +kernel
theorem dX9_cider_63 : decode cX9_cider 63 = .ok (.lstore 7, 2) := by decide +kernel
theorem dX9_cider_65 : decode cX9_cider 65 = .ok (.iconst 0, 1) := by decide +kernel
theorem dX9_cider_66 : decode cX9_cider 66 = .ok (.istore 9, 2) := by decide +kernel
theorem dX9_cider_68 : decode cX9_cider 68 = .ok (.iload 9, 2) := by decide +kernel
theorem dX9_cider_70 : decode cX9_cider 70 = .ok (.iconst 1, 1) := by decide +kernel
theorem dX9_cider_71 : decode cX9_cider 71 = .ok (.aload_n 0, 1) := by decide +kernel
theorem dX9_cider_72 : decode cX9_cider 72 = .ok (.getfield 7, 3) := by decide +kernel
theorem dX9_cider_75 : decode cX9_cider 75 = .ok (.iconst 2, 1) := by decide +kernel
theorem dX9_cider_76 : decode cX9_cider 76 = .ok (.iaload, 1) := by decide +kernel
theorem dX9_cider_77 : decode cX9_cider 77 = .ok (.ishl, 1) := by decide +kernel
theorem dX9_cider_78 : decode cX9_cider 78 = .ok (.if_icmp .ge 96, 3) := by decide +kernel
theorem dX9_cider_81 : decode cX9_cider 81 = .ok (.lconst 1, 1) := by decide +kernel
theorem dX9_cider_82 : decode cX9_cider 82 = .ok (.lstore 10, 2) := by decide +kernel
theorem dX9_cider_84 : decode cX9_cider 84 = .ok (.iconst 0, 1) := by decide +kernel
theorem dX9_cider_85 : decode cX9_cider 85 = .ok (.istore 12, 2) := by decide +kernel
theorem dX9_cider_87 : decode cX9_cider 87 = .ok (.iload 12, 2) := by decide +kernel
theorem dX9_cider_89 : decode cX9_cider 89 = .ok (.aload_n 0, 1) := by decide +kernel
theorem dX9_cider_90 : decode cX9_cider 90 = .ok (.getfield 7, 3) := by decide +kernel
theorem dX9_cider_93 : decode cX9_cider 93 = .ok (.iconst 2, 1) := by decide +kernel
theorem dX9_cider_94 : decode cX9_cider 94 = .ok (.iaload, 1) := by decide +kernel
theorem dX9_cider_95 : decode cX9_cider 95 = .ok (.if_icmp .ge 35, 3) := by decide +kernel
theorem dX9_cider_98 : decode cX9_cider 98 = .ok (.lload 10, 2) := by decide +kernel
theorem dX9_cider_100 : decode cX9_cider 100 = .ok (.iload 9, 2) := by decide +kernel
theorem dX9_cider_102 : decode cX9_cider 102 = .ok (.iload 12, 2) := by decide +kernel
theorem dX9_cider_104 : decode cX9_cider 104 = .ok (.ishr, 1) := by decide +kernel
theorem dX9_cider_105 : decode cX9_cider 105 = .ok (.iconst 1, 1) := by decide +kernel
theorem dX9_cider_106 : decode cX9_cider 106 = .ok (.iand, 1) := by decide +kernel
theorem dX9_cider_107 : decode cX9_cider 107 = .ok (.iconst 1, 1) := by decide +kernel
theorem dX9_cider_108 : decode cX9_cider 108 = .ok (.if_icmp .ne 8, 3) := by decide +kernel
theorem dX9_cider_111 : decode cX9_cider 111 = .ok (.iload_n 3, 1) := by decide +kernel
theorem dX9_cider_112 : decode cX9_cider 112 = .ok (.i2l, 1) := by decide +kernel
theorem dX9_cider_113 : decode cX9_cider 113 = .ok (.goto 8, 3) := by decide +kernel
theorem dX9_cider_116 : decode cX9_cider 116 = .ok (.bipush 10, 2) := by decide +kernel
theorem dX9_cider_118 : decode cX9_cider 118 = .ok (.iload_n 3, 1) := by decide +kernel
theorem dX9_cider_119 : decode cX9_cider 119 = .ok (.isub, 1) := by decide +kernel
theorem dX9_cider_120 : decode cX9_cider 120 = .ok (.i2l, 1) := by decide +kernel
theorem dX9_cider_121 : decode cX9_cider 121 = .ok (.lmul, 1) := by decide +kernel
theorem dX9_cider_122 : decode cX9_cider 122 = .ok (.lstore 10, 2) := by decide +kernel
theorem dX9_cider_124 : decode cX9_cider 124 = .ok (.iinc 12 1, 3) := by decide +kernel
theorem dX9_cider_127 : decode cX9_cider 127 = .ok (.goto (-40), 3) := by decide +kernel
theorem dX9_cider_130 : decode cX9_cider 130 = .ok (.aload_n 0, 1) := by decide +kernel
theorem dX9_cider_131 : decode cX9_cider 131 = .ok (.iload 9, 2) := by decide +kernel
theorem dX9_cider_133 : decode cX9_cider 133 = .ok (.iload_n 1, 1) := by decide +kernel
theorem dX9_cider_134 : decode cX9_cider 134 = .ok (.invokevirtual 180, 3) := by decide +kernel
theorem dX9_cider_137 : decode cX9_cider 137 = .ok (.lload 7, 2) := by decide +kernel
theorem dX9_cider_139 : decode cX9_cider 139 = .ok (.lload 10, 2) := by decide +kernel
theorem dX9_cider_141 : decode cX9_cider 141 = .ok (.ladd, 1) := by decide +kernel
theorem dX9_cider_142 : decode cX9_cider 142 = .ok (.lstore 7, 2) := by decide +kernel
theorem dX9_cider_144 : decode cX9_cider 144 = .ok (.lload 5, 2) := by decide +kernel
theorem dX9_cider_146 : decode cX9_cider 146 = .ok (.aload_n 0, 1) := by decide +kernel
theorem dX9_cider_147 : decode cX9_cider 147 = .ok (.getfield 166, 3) := by decide +kernel
theorem dX9_cider_150 : decode cX9_cider 150 = .ok (.iload_n 2, 1) := by decide +kernel
theorem dX9_cider_151 : decode cX9_cider 151 = .ok (.aload_n 0, 1) := by decide +kernel
theorem dX9_cider_152 : decode cX9_cider 152 = .ok (.getfield 169, 3) := by decide +kernel
theorem dX9_cider_155 : decode cX9_cider 155 = .ok (.imul, 1) := by decide +kernel
theorem dX9_cider_156 : decode cX9_cider 156 = .ok (.if_icmp .lt 8, 3) := by decide +kernel
theorem dX9_cider_159 : decode cX9_cider 159 = .ok (.lload 10, 2) := by decide +kernel
theorem dX9_cider_161 : decode cX9_cider 161 = .ok (.goto 4, 3) := by decide +kernel
theorem dX9_cider_164 : decode cX9_cider 164 = .ok (.lconst 0, 1) := by decide +kernel
theorem dX9_cider_165 : decode cX9_cider 165 = .ok (.ladd, 1) := by decide +kernel
theorem dX9_cider_166 : decode cX9_cider 166 = .ok (.lstore 5, 2) := by decide +kernel
theorem dX9_cider_168 : decode cX9_cider 168 = .ok (.iinc 9 1, 3) := by decide +kernel
theorem dX9_cider_171 : decode cX9_cider 171 = .ok (.goto (-103), 3) := by decide +kernel
theorem dX9_cider_174 : decode cX9_cider 174 = .ok (.lload 5, 2) := by decide +kernel
theorem dX9_cider_176 : decode cX9_cider 176 = .ok (.lload 7, 2) := by decide +kernel
theorem dX9_cider_178 : decode cX9_cider 178 = .ok (.invokestatic 176, 3) := by decide +kernel
theorem dX9_cider_181 : decode cX9_cider 181 = .ok (.lstore 9, 2) := by decide +kernel
theorem dX9_cider_183 : decode cX9_cider 183 = .ok (.iload 4, 2) := by decide +kernel
theorem dX9_cider_185 : decode cX9_cider 185 = .ok (.ifCond .ne 8, 3) := by decide +kernel
theorem dX9_cider_188 : decode cX9_cider 188 = .ok (.lload 5, 2) := by decide +kernel
theorem dX9_cider_190 : decode cX9_cider 190 = .ok (.goto 5, 3) := by decide +kernel
theorem dX9_cider_193 : decode cX9_cider 193 = .ok (.lload 7, 2) := by decide +kernel
theorem dX9_cider_195 : decode cX9_cider 195 = .ok (.lload 9, 2) := by decide +kernel
theorem dX9_cider_197 : decode cX9_cider 197 = .ok (.ldiv, 1) := by decide +kernel
theorem dX9_cider_198 : decode cX9_cider 198 = .ok (.l2i, 1) := by decide +kernel
theorem dX9_cider_199 : decode cX9_cider 199 = .ok (.ireturn, 1) := by decide +kernel
theorem dX9_count_0 : decode cX9_count 0 = .ok (.aload_n 0, 1) := by decide +kernel
theorem dX9_count_1 : decode cX9_count 1 = .ok (.iconst 0, 1) := by decide +kernel
theorem dX9_count_2 : decode cX9_count 2 = .ok (.putfield 48, 3) := by decide +kernel
theorem dX9_count_5 : decode cX9_count 5 = .ok (.iconst 0, 1) := by decide +kernel
theorem dX9_count_6 : decode cX9_count 6 = .ok (.istore_n 2, 1) := by decide +kernel
theorem dX9_count_7 : decode cX9_count 7 = .ok (.iload_n 1, 1) := by decide +kernel
theorem dX9_count_8 : decode cX9_count 8 = .ok (.tableswitch 164 0 8 #[52, 59, 66, 73, 80, 111, 149, 154, 159], 52) := by decide +kernel
theorem dX9_count_60 : decode cX9_count 60 = .ok (.aload_n 0, 1) := by decide +kernel
theorem dX9_count_61 : decode cX9_count 61 = .ok (.getfield 7, 3) := by decide +kernel
theorem dX9_count_64 : decode cX9_count 64 = .ok (.iconst 0, 1) := by decide +kernel
theorem dX9_count_65 : decode cX9_count 65 = .ok (.iaload, 1) := by decide +kernel
theorem dX9_count_66 : decode cX9_count 66 = .ok (.ireturn, 1) := by decide +kernel
theorem dX9_count_67 : decode cX9_count 67 = .ok (.aload_n 0, 1) := by decide +kernel
theorem dX9_count_68 : decode cX9_count 68 = .ok (.getfield 7, 3) := by decide +kernel
theorem dX9_count_71 : decode cX9_count 71 = .ok (.iconst 2, 1) := by decide +kernel
theorem dX9_count_72 : decode cX9_count 72 = .ok (.iaload, 1) := by decide +kernel
theorem dX9_count_73 : decode cX9_count 73 = .ok (.ireturn, 1) := by decide +kernel
theorem dX9_count_74 : decode cX9_count 74 = .ok (.aload_n 0, 1) := by decide +kernel
theorem dX9_count_75 : decode cX9_count 75 = .ok (.getfield 7, 3) := by decide +kernel
theorem dX9_count_78 : decode cX9_count 78 = .ok (.iconst 1, 1) := by decide +kernel
theorem dX9_count_79 : decode cX9_count 79 = .ok (.iaload, 1) := by decide +kernel
theorem dX9_count_80 : decode cX9_count 80 = .ok (.ireturn, 1) := by decide +kernel
theorem dX9_count_81 : decode cX9_count 81 = .ok (.aload_n 0, 1) := by decide +kernel
theorem dX9_count_82 : decode cX9_count 82 = .ok (.getfield 7, 3) := by decide +kernel
theorem dX9_count_85 : decode cX9_count 85 = .ok (.iconst 3, 1) := by decide +kernel
theorem dX9_count_86 : decode cX9_count 86 = .ok (.iaload, 1) := by decide +kernel
theorem dX9_count_87 : decode cX9_count 87 = .ok (.ireturn, 1) := by decide +kernel
theorem dX9_count_88 : decode cX9_count 88 = .ok (.iconst 0, 1) := by decide +kernel
theorem dX9_count_89 : decode cX9_count 89 = .ok (.istore_n 3, 1) := by decide +kernel
theorem dX9_count_90 : decode cX9_count 90 = .ok (.iload_n 3, 1) := by decide +kernel
theorem dX9_count_91 : decode cX9_count 91 = .ok (.aload_n 0, 1) := by decide +kernel
theorem dX9_count_92 : decode cX9_count 92 = .ok (.getfield 7, 3) := by decide +kernel
theorem dX9_count_95 : decode cX9_count 95 = .ok (.iconst 0, 1) := by decide +kernel
theorem dX9_count_96 : decode cX9_count 96 = .ok (.iaload, 1) := by decide +kernel
theorem dX9_count_97 : decode cX9_count 97 = .ok (.if_icmp .ge 20, 3) := by decide +kernel
theorem dX9_count_100 : decode cX9_count 100 = .ok (.iload_n 2, 1) := by decide +kernel
theorem dX9_count_101 : decode cX9_count 101 = .ok (.aload_n 0, 1) := by decide +kernel
theorem dX9_count_102 : decode cX9_count 102 = .ok (.getfield 7, 3) := by decide +kernel
theorem dX9_count_105 : decode cX9_count 105 = .ok (.iconst 4, 1) := by decide +kernel
theorem dX9_count_106 : decode cX9_count 106 = .ok (.iload_n 3, 1) := by decide +kernel
theorem dX9_count_107 : decode cX9_count 107 = .ok (.iadd, 1) := by decide +kernel
theorem dX9_count_108 : decode cX9_count 108 = .ok (.iaload, 1) := by decide +kernel
theorem dX9_count_109 : decode cX9_count 109 = .ok (.iadd, 1) := by decide +kernel
theorem dX9_count_110 : decode cX9_count 110 = .ok (.istore_n 2, 1) := by decide +kernel
theorem dX9_count_111 : decode cX9_count 111 = .ok (.iinc 3 1, 3) := by decide +kernel
theorem dX9_count_114 : decode cX9_count 114 = .ok (.goto (-24), 3) := by decide +kernel
theorem dX9_count_117 : decode cX9_count 117 = .ok (.iload_n 2, 1) := by decide +kernel
theorem dX9_count_118 : decode cX9_count 118 = .ok (.ireturn, 1) := by decide +kernel
theorem dX9_count_119 : decode cX9_count 119 = .ok (.iconst 1, 1) := by decide +kernel
theorem dX9_count_120 : decode cX9_count 120 = .ok (.istore_n 3, 1) := by decide +kernel
theorem dX9_count_121 : decode cX9_count 121 = .ok (.iload_n 3, 1) := by decide +kernel
theorem dX9_count_122 : decode cX9_count 122 = .ok (.bipush 9, 2) := by decide +kernel
theorem dX9_count_124 : decode cX9_count 124 = .ok (.if_icmp .ge 31, 3) := by decide +kernel
theorem dX9_count_127 : decode cX9_count 127 = .ok (.iload_n 2, 1) := by decide +kernel
theorem dX9_count_128 : decode cX9_count 128 = .ok (.aload_n 0, 1) := by decide +kernel
theorem dX9_count_129 : decode cX9_count 129 = .ok (.aload_n 0, 1) := by decide +kernel
theorem dX9_count_130 : decode cX9_count 130 = .ok (.getfield 7, 3) := by decide +kernel
theorem dX9_count_133 : decode cX9_count 133 = .ok (.iconst 3, 1) := by decide +kernel
theorem dX9_count_134 : decode cX9_count 134 = .ok (.iaload, 1) := by decide +kernel
theorem dX9_count_135 : decode cX9_count 135 = .ok (.iload_n 3, 1) := by decide +kernel
theorem dX9_count_136 : decode cX9_count 136 = .ok (.invokevirtual 172, 3) := by decide +kernel
theorem dX9_count_139 : decode cX9_count 139 = .ok (.ifCond .eq 7, 3) := by decide +kernel
theorem dX9_count_142 : decode cX9_count 142 = .ok (.iconst 1, 1) := by decide +kernel
theorem dX9_count_143 : decode cX9_count 143 = .ok (.goto 4, 3) := by decide +kernel
theorem dX9_count_146 : decode cX9_count 146 = .ok (.iconst 0, 1) := by decide +kernel
theorem dX9_count_147 : decode cX9_count 147 = .ok (.iadd, 1) := by decide +kernel
theorem dX9_count_148 : decode cX9_count 148 = .ok (.istore_n 2, 1) := by decide +kernel
theorem dX9_count_149 : decode cX9_count 149 = .ok (.iinc 3 1, 3) := by decide +kernel
theorem dX9_count_152 : decode cX9_count 152 = .ok (.goto (-31), 3) := by decide +kernel
theorem dX9_count_155 : decode cX9_count 155 = .ok (.iload_n 2, 1) := by decide +kernel
theorem dX9_count_156 : decode cX9_count 156 = .ok (.ireturn, 1) := by decide +kernel
theorem dX9_count_157 : decode cX9_count 157 = .ok (.aload_n 0, 1) := by decide +kernel
theorem dX9_count_158 : decode cX9_count 158 = .ok (.getfield 128, 3) := by decide +kernel
theorem dX9_count_161 : decode cX9_count 161 = .ok (.ireturn, 1) := by decide +kernel
theorem dX9_count_162 : decode cX9_count 162 = .ok (.aload_n 0, 1) := by decide +kernel
theorem dX9_count_163 : decode cX9_count 163 = .ok (.getfield 131, 3) := by decide +kernel
theorem dX9_count_166 : decode cX9_count 166 = .ok (.ireturn, 1) := by decide +kernel
theorem dX9_count_167 : decode cX9_count 167 = .ok (.aload_n 0, 1) := by decide +kernel
theorem dX9_count_168 : decode cX9_count 168 = .ok (.getfield 58, 3) := by decide +kernel
theorem dX9_count_171 : decode cX9_count 171 = .ok (.ireturn, 1) := by decide +kernel
theorem dX9_count_172 : decode cX9_count 172 = .ok (.bipush (-3), 2) := by decide +kernel
theorem dX9_count_174 : decode cX9_count 174 = .ok (.ireturn, 1) := by decide +kernel
