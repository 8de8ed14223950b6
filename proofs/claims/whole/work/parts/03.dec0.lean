theorem dX0_init_0 : decode cX0_init 0 = .ok (.aload_n 0, 1) := by decide +kernel
theorem dX0_init_1 : decode cX0_init 1 = .ok (.invokespecial 3, 3) := by decide +kernel
theorem dX0_init_4 : decode cX0_init 4 = .ok (.aload_n 0, 1) := by decide +kernel
theorem dX0_init_5 : decode cX0_init 5 = .ok (.iconst 4, 1) := by decide +kernel
theorem dX0_init_6 : decode cX0_init 6 = .ok (.newarray .int, 2) := by decide +kernel
theorem dX0_init_8 : decode cX0_init 8 = .ok (.putfield 9, 3) := by decide +kernel
theorem dX0_init_11 : decode cX0_init 11 = .ok (.aload_n 0, 1) := by decide +kernel
theorem dX0_init_12 : decode cX0_init 12 = .ok (.iconst 4, 1) := by decide +kernel
theorem dX0_init_13 : decode cX0_init 13 = .ok (.newarray .int, 2) := by decide +kernel
theorem dX0_init_15 : decode cX0_init 15 = .ok (.putfield 15, 3) := by decide +kernel
theorem dX0_init_18 : decode cX0_init 18 = .ok (.return_, 1) := by decide +kernel
theorem dX0_findChance_0 : decode cX0_findChance 0 = .ok (.aload_n 0, 1) := by decide +kernel
theorem dX0_findChance_1 : decode cX0_findChance 1 = .ok (.aload_n 1, 1) := by decide +kernel
theorem dX0_findChance_2 : decode cX0_findChance 2 = .ok (.putfield 18, 3) := by decide +kernel
theorem dX0_findChance_5 : decode cX0_findChance 5 = .ok (.aload_n 0, 1) := by decide +kernel
theorem dX0_findChance_6 : decode cX0_findChance 6 = .ok (.iload_n 2, 1) := by decide +kernel
theorem dX0_findChance_7 : decode cX0_findChance 7 = .ok (.putfield 22, 3) := by decide +kernel
theorem dX0_findChance_10 : decode cX0_findChance 10 = .ok (.aload_n 0, 1) := by decide +kernel
theorem dX0_findChance_11 : decode cX0_findChance 11 = .ok (.iload_n 3, 1) := by decide +kernel
theorem dX0_findChance_12 : decode cX0_findChance 12 = .ok (.putfield 26, 3) := by decide +kernel
theorem dX0_findChance_15 : decode cX0_findChance 15 = .ok (.aload_n 0, 1) := by decide +kernel
theorem dX0_findChance_16 : decode cX0_findChance 16 = .ok (.iload 4, 2) := by decide +kernel
theorem dX0_findChance_18 : decode cX0_findChance 18 = .ok (.putfield 29, 3) := by decide +kernel
theorem dX0_findChance_21 : decode cX0_findChance 21 = .ok (.aload_n 0, 1) := by decide +kernel
theorem dX0_findChance_22 : decode cX0_findChance 22 = .ok (.lconst 0, 1) := by decide +kernel
theorem dX0_findChance_23 : decode cX0_findChance 23 = .ok (.putfield 32, 3) := by decide +kernel
theorem dX0_findChance_26 : decode cX0_findChance 26 = .ok (.aload_n 0, 1) := by decide +kernel
theorem dX0_findChance_27 : decode cX0_findChance 27 = .ok (.lconst 1, 1) := by decide +kernel
theorem dX0_findChance_28 : decode cX0_findChance 28 = .ok (.putfield 36, 3) := by decide +kernel
theorem dX0_findChance_31 : decode cX0_findChance 31 = .ok (.aload_n 0, 1) := by decide +kernel
theorem dX0_findChance_32 : decode cX0_findChance 32 = .ok (.iconst 0, 1) := by decide +kernel
theorem dX0_findChance_33 : decode cX0_findChance 33 = .ok (.iconst 0, 1) := by decide +kernel
theorem dX0_findChance_34 : decode cX0_findChance 34 = .ok (.lconst 1, 1) := by decide +kernel
theorem dX0_findChance_35 : decode cX0_findChance 35 = .ok (.lconst 1, 1) := by decide +kernel
theorem dX0_findChance_36 : decode cX0_findChance 36 = .ok (.invokevirtual 39, 3) := by decide +kernel
theorem dX0_findChance_39 : decode cX0_findChance 39 = .ok (.return_, 1) := by decide +kernel
theorem dX0_come_0 : decode cX0_come 0 = .ok (.aload_n 0, 1) := by decide +kernel
theorem dX0_come_1 : decode cX0_come 1 = .ok (.iload_n 1, 1) := by decide +kernel
theorem dX0_come_2 : decode cX0_come 2 = .ok (.invokevirtual 43, 3) := by decide +kernel
theorem dX0_come_5 : decode cX0_come 5 = .ok (.istore 7, 2) := by decide +kernel
theorem dX0_come_7 : decode cX0_come 7 = .ok (.iconst 0, 1) := by decide +kernel
theorem dX0_come_8 : decode cX0_come 8 = .ok (.istore 8, 2) := by decide +kernel
theorem dX0_come_10 : decode cX0_come 10 = .ok (.iload 8, 2) := by decide +kernel
theorem dX0_come_12 : decode cX0_come 12 = .ok (.aload_n 0, 1) := by decide +kernel
theorem dX0_come_13 : decode cX0_come 13 = .ok (.getfield 18, 3) := by decide +kernel
theorem dX0_come_16 : decode cX0_come 16 = .ok (.getfield 47, 3) := by decide +kernel
theorem dX0_come_19 : decode cX0_come 19 = .ok (.if_icmp .ge 127, 3) := by decide +kernel
theorem dX0_come_22 : decode cX0_come 22 = .ok (.iload_n 1, 1) := by decide +kernel
theorem dX0_come_23 : decode cX0_come 23 = .ok (.iload 8, 2) := by decide +kernel
theorem dX0_come_25 : decode cX0_come 25 = .ok (.ishr, 1) := by decide +kernel
theorem dX0_come_26 : decode cX0_come 26 = .ok (.iconst 1, 1) := by decide +kernel
theorem dX0_come_27 : decode cX0_come 27 = .ok (.iand, 1) := by decide +kernel
theorem dX0_come_28 : decode cX0_come 28 = .ok (.ifCond .ne 112, 3) := by decide +kernel
theorem dX0_come_31 : decode cX0_come 31 = .ok (.aload_n 0, 1) := by decide +kernel
theorem dX0_come_32 : decode cX0_come 32 = .ok (.getfield 18, 3) := by decide +kernel
theorem dX0_come_35 : decode cX0_come 35 = .ok (.aload_n 0, 1) := by decide +kernel
theorem dX0_come_36 : decode cX0_come 36 = .ok (.getfield 22, 3) := by decide +kernel
theorem dX0_come_39 : decode cX0_come 39 = .ok (.iload 8, 2) := by decide +kernel
theorem dX0_come_41 : decode cX0_come 41 = .ok (.iload_n 2, 1) := by decide +kernel
theorem dX0_come_42 : decode cX0_come 42 = .ok (.invokevirtual 52, 3) := by decide +kernel
theorem dX0_come_45 : decode cX0_come 45 = .ok (.istore 9, 2) := by decide +kernel
theorem dX0_come_47 : decode cX0_come 47 = .ok (.iload 9, 2) := by decide +kernel
theorem dX0_come_49 : decode cX0_come 49 = .ok (.iconst (-1), 1) := by decide +kernel
theorem dX0_come_50 : decode cX0_come 50 = .ok (.if_icmp .ne 7, 3) := by decide +kernel
theorem dX0_come_53 : decode cX0_come 53 = .ok (.iload_n 2, 1) := by decide +kernel
theorem dX0_come_54 : decode cX0_come 54 = .ok (.goto 9, 3) := by decide +kernel
theorem dX0_come_57 : decode cX0_come 57 = .ok (.iload_n 2, 1) := by decide +kernel
theorem dX0_come_58 : decode cX0_come 58 = .ok (.iconst 1, 1) := by decide +kernel
theorem dX0_come_59 : decode cX0_come 59 = .ok (.iload 9, 2) := by decide +kernel
theorem dX0_come_61 : decode cX0_come 61 = .ok (.ishl, 1) := by decide +kernel
theorem dX0_come_62 : decode cX0_come 62 = .ok (.ior, 1) := by decide +kernel
theorem dX0_come_63 : decode cX0_come 63 = .ok (.istore 10, 2) := by decide +kernel
theorem dX0_come_65 : decode cX0_come 65 = .ok (.iload 8, 2) := by decide +kernel
theorem dX0_come_67 : decode cX0_come 67 = .ok (.aload_n 0, 1) := by decide +kernel
theorem dX0_come_68 : decode cX0_come 68 = .ok (.getfield 26, 3) := by decide +kernel
theorem dX0_come_71 : decode cX0_come 71 = .ok (.if_icmp .eq 37, 3) := by decide +kernel
theorem dX0_come_74 : decode cX0_come 74 = .ok (.aload_n 0, 1) := by decide +kernel
theorem dX0_come_75 : decode cX0_come 75 = .ok (.iload_n 1, 1) := by decide +kernel
theorem dX0_come_76 : decode cX0_come 76 = .ok (.iconst 1, 1) := by decide +kernel
theorem dX0_come_77 : decode cX0_come 77 = .ok (.iload 8, 2) := by decide +kernel
theorem dX0_come_79 : decode cX0_come 79 = .ok (.ishl, 1) := by decide +kernel
theorem dX0_come_80 : decode cX0_come 80 = .ok (.ior, 1) := by decide +kernel
theorem dX0_come_81 : decode cX0_come 81 = .ok (.iload 10, 2) := by decide +kernel
theorem dX0_come_83 : decode cX0_come 83 = .ok (.lload_n 3, 1) := by decide +kernel
theorem dX0_come_84 : decode cX0_come 84 = .ok (.aload_n 0, 1) := by decide +kernel
theorem dX0_come_85 : decode cX0_come 85 = .ok (.getfield 18, 3) := by decide +kernel
theorem dX0_come_88 : decode cX0_come 88 = .ok (.getfield 56, 3) := by decide +kernel
theorem dX0_come_91 : decode cX0_come 91 = .ok (.iload 8, 2) := by decide +kernel
theorem dX0_come_93 : decode cX0_come 93 = .ok (.iaload, 1) := by decide +kernel
theorem dX0_come_94 : decode cX0_come 94 = .ok (.i2l, 1) := by decide +kernel
theorem dX0_come_95 : decode cX0_come 95 = .ok (.lmul, 1) := by decide +kernel
theorem dX0_come_96 : decode cX0_come 96 = .ok (.lload 5, 2) := by decide +kernel
theorem dX0_come_98 : decode cX0_come 98 = .ok (.iload 7, 2) := by decide +kernel
theorem dX0_come_100 : decode cX0_come 100 = .ok (.i2l, 1) := by decide +kernel
theorem dX0_come_101 : decode cX0_come 101 = .ok (.lmul, 1) := by decide +kernel
theorem dX0_come_102 : decode cX0_come 102 = .ok (.invokevirtual 39, 3) := by decide +kernel
theorem dX0_come_105 : decode cX0_come 105 = .ok (.goto 35, 3) := by decide +kernel
theorem dX0_come_108 : decode cX0_come 108 = .ok (.iload 9, 2) := by decide +kernel
theorem dX0_come_110 : decode cX0_come 110 = .ok (.aload_n 0, 1) := by decide +kernel
theorem dX0_come_111 : decode cX0_come 111 = .ok (.getfield 29, 3) := by decide +kernel
theorem dX0_come_114 : decode cX0_come 114 = .ok (.if_icmp .ne 26, 3) := by decide +kernel
theorem dX0_come_117 : decode cX0_come 117 = .ok (.aload_n 0, 1) := by decide +kernel
theorem dX0_come_118 : decode cX0_come 118 = .ok (.lload_n 3, 1) := by decide +kernel
theorem dX0_come_119 : decode cX0_come 119 = .ok (.aload_n 0, 1) := by decide +kernel
theorem dX0_come_120 : decode cX0_come 120 = .ok (.getfield 18, 3) := by decide +kernel
theorem dX0_come_123 : decode cX0_come 123 = .ok (.getfield 56, 3) := by decide +kernel
theorem dX0_come_126 : decode cX0_come 126 = .ok (.iload 8, 2) := by decide +kernel
theorem dX0_come_128 : decode cX0_come 128 = .ok (.iaload, 1) := by decide +kernel
theorem dX0_come_129 : decode cX0_come 129 = .ok (.i2l, 1) := by decide +kernel
theorem dX0_come_130 : decode cX0_come 130 = .ok (.lmul, 1) := by decide +kernel
theorem dX0_come_131 : decode cX0_come 131 = .ok (.lload 5, 2) := by decide +kernel
theorem dX0_come_133 : decode cX0_come 133 = .ok (.iload 7, 2) := by decide +kernel
theorem dX0_come_135 : decode cX0_come 135 = .ok (.i2l, 1) := by decide +kernel
theorem dX0_come_136 : decode cX0_come 136 = .ok (.lmul, 1) := by decide +kernel
theorem dX0_come_137 : decode cX0_come 137 = .ok (.invokevirtual 59, 3) := by decide +kernel
theorem dX0_come_140 : decode cX0_come 140 = .ok (.iinc 8 1, 3) := by decide +kernel
theorem dX0_come_143 : decode cX0_come 143 = .ok (.goto (-133), 3) := by decide +kernel
theorem dX0_come_146 : decode cX0_come 146 = .ok (.return_, 1) := by decide +kernel
theorem dX0_dashesLeft_0 : decode cX0_dashesLeft 0 = .ok (.iconst 0, 1) := by decide +kernel
theorem dX0_dashesLeft_1 : decode cX0_dashesLeft 1 = .ok (.istore_n 2, 1) := by decide +kernel
theorem dX0_dashesLeft_2 : decode cX0_dashesLeft 2 = .ok (.iconst 0, 1) := by decide +kernel
theorem dX0_dashesLeft_3 : decode cX0_dashesLeft 3 = .ok (.istore_n 3, 1) := by decide +kernel
theorem dX0_dashesLeft_4 : decode cX0_dashesLeft 4 = .ok (.iload_n 3, 1) := by decide +kernel
theorem dX0_dashesLeft_5 : decode cX0_dashesLeft 5 = .ok (.aload_n 0, 1) := by decide +kernel
theorem dX0_dashesLeft_6 : decode cX0_dashesLeft 6 = .ok (.getfield 18, 3) := by decide +kernel
theorem dX0_dashesLeft_9 : decode cX0_dashesLeft 9 = .ok (.getfield 47, 3) := by decide +kernel
theorem dX0_dashesLeft_12 : decode cX0_dashesLeft 12 = .ok (.if_icmp .ge 29, 3) := by decide +kernel
theorem dX0_dashesLeft_15 : decode cX0_dashesLeft 15 = .ok (.iload_n 1, 1) := by decide +kernel
theorem dX0_dashesLeft_16 : decode cX0_dashesLeft 16 = .ok (.iload_n 3, 1) := by decide +kernel
theorem dX0_dashesLeft_17 : decode cX0_dashesLeft 17 = .ok (.ishr, 1) := by decide +kernel
theorem dX0_dashesLeft_18 : decode cX0_dashesLeft 18 = .ok (.iconst 1, 1) := by decide +kernel
theorem dX0_dashesLeft_19 : decode cX0_dashesLeft 19 = .ok (.iand, 1) := by decide +kernel
theorem dX0_dashesLeft_20 : decode cX0_dashesLeft 20 = .ok (.ifCond .ne 15, 3) := by decide +kernel
theorem dX0_dashesLeft_23 : decode cX0_dashesLeft 23 = .ok (.iload_n 2, 1) := by decide +kernel
theorem dX0_dashesLeft_24 : decode cX0_dashesLeft 24 = .ok (.aload_n 0, 1) := by decide +kernel
theorem dX0_dashesLeft_25 : decode cX0_dashesLeft 25 = .ok (.getfield 18, 3) := by decide +kernel
theorem dX0_dashesLeft_28 : decode cX0_dashesLeft 28 = .ok (.getfield 56, 3) := by decide +kernel
theorem dX0_dashesLeft_31 : decode cX0_dashesLeft 31 = .ok (.iload_n 3, 1) := by decide +kernel
theorem dX0_dashesLeft_32 : decode cX0_dashesLeft 32 = .ok (.iaload, 1) := by decide +kernel
theorem dX0_dashesLeft_33 : decode cX0_dashesLeft 33 = .ok (.iadd, 1) := by decide +kernel
theorem dX0_dashesLeft_34 : decode cX0_dashesLeft 34 = .ok (.istore_n 2, 1) := by decide +kernel
theorem dX0_dashesLeft_35 : decode cX0_dashesLeft 35 = .ok (.iinc 3 1, 3) := by decide +kernel
theorem dX0_dashesLeft_38 : decode cX0_dashesLeft 38 = .ok (.goto (-34), 3) := by decide +kernel
theorem dX0_dashesLeft_41 : decode cX0_dashesLeft 41 = .ok (.iload_n 2, 1) := by decide +kernel
theorem dX0_dashesLeft_42 : decode cX0_dashesLeft 42 = .ok (.ireturn, 1) := by decide +kernel
theorem dX0_add_0 : decode cX0_add 0 = .ok (.aload_n 0, 1) := by decide +kernel
theorem dX0_add_1 : decode cX0_add 1 = .ok (.getfield 36, 3) := by decide +kernel
theorem dX0_add_4 : decode cX0_add 4 = .ok (.lload_n 3, 1) := by decide +kernel
theorem dX0_add_5 : decode cX0_add 5 = .ok (.invokestatic 63, 3) := by decide +kernel
theorem dX0_add_8 : decode cX0_add 8 = .ok (.lstore 5, 2) := by decide +kernel
theorem dX0_add_10 : decode cX0_add 10 = .ok (.aload_n 0, 1) := by decide +kernel
theorem dX0_add_11 : decode cX0_add 11 = .ok (.getfield 32, 3) := by decide +kernel
theorem dX0_add_14 : decode cX0_add 14 = .ok (.lload_n 3, 1) := by decide +kernel
theorem dX0_add_15 : decode cX0_add 15 = .ok (.lload 5, 2) := by decide +kernel
theorem dX0_add_17 : decode cX0_add 17 = .ok (.ldiv, 1) := by decide +kernel
theorem dX0_add_18 : decode cX0_add 18 = .ok (.lmul, 1) := by decide +kernel
theorem dX0_add_19 : decode cX0_add 19 = .ok (.lload_n 1, 1) := by decide +kernel
theorem dX0_add_20 : decode cX0_add 20 = .ok (.aload_n 0, 1) := by decide +kernel
theorem dX0_add_21 : decode cX0_add 21 = .ok (.getfield 36, 3) := by decide +kernel
theorem dX0_add_24 : decode cX0_add 24 = .ok (.lload 5, 2) := by decide +kernel
theorem dX0_add_26 : decode cX0_add 26 = .ok (.ldiv, 1) := by decide +kernel
theorem dX0_add_27 : decode cX0_add 27 = .ok (.lmul, 1) := by decide +kernel
theorem dX0_add_28 : decode cX0_add 28 = .ok (.ladd, 1) := by decide +kernel
theorem dX0_add_29 : decode cX0_add 29 = .ok (.lstore 7, 2) := by decide +kernel
theorem dX0_add_31 : decode cX0_add 31 = .ok (.aload_n 0, 1) := by decide +kernel
theorem dX0_add_32 : decode cX0_add 32 = .ok (.getfield 36, 3) := by decide +kernel
theorem dX0_add_35 : decode cX0_add 35 = .ok (.lload 5, 2) := by decide +kernel
theorem dX0_add_37 : decode cX0_add 37 = .ok (.ldiv, 1) := by decide +kernel
theorem dX0_add_38 : decode cX0_add 38 = .ok (.lload_n 3, 1) := by decide +kernel
theorem dX0_add_39 : decode cX0_add 39 = .ok (.lmul, 1) := by decide +kernel
theorem dX0_add_40 : decode cX0_add 40 = .ok (.lstore 9, 2) := by decide +kernel
theorem dX0_add_42 : decode cX0_add 42 = .ok (.lload 7, 2) := by decide +kernel
theorem dX0_add_44 : decode cX0_add 44 = .ok (.lload 9, 2) := by decide +kernel
theorem dX0_add_46 : decode cX0_add 46 = .ok (.invokestatic 63, 3) := by decide +kernel
theorem dX0_add_49 : decode cX0_add 49 = .ok (.lstore 11, 2) := by decide +kernel
theorem dX0_add_51 : decode cX0_add 51 = .ok (.aload_n 0, 1) := by decide +kernel
theorem dX0_add_52 : decode cX0_add 52 = .ok (.lload 7, 2) := by decide +kernel
theorem dX0_add_54 : decode cX0_add 54 = .ok (.lload 11, 2) := by decide +kernel
theorem dX0_add_56 : decode cX0_add 56 = .ok (.ldiv, 1) := by decide +kernel
theorem dX0_add_57 : decode cX0_add 57 = .ok (.putfield 32, 3) := by decide +kernel
theorem dX0_add_60 : decode cX0_add 60 = .ok (.aload_n 0, 1) := by decide +kernel
theorem dX0_add_61 : decode cX0_add 61 = .ok (.lload 9, 2) := by decide +kernel
theorem dX0_add_63 : decode cX0_add 63 = .ok (.lload 11, 2) := by decide +kernel
theorem dX0_add_65 : decode cX0_add 65 = .ok (.ldiv, 1) := by decide +kernel
theorem dX0_add_66 : decode cX0_add 66 = .ok (.putfield 36, 3) := by decide +kernel
theorem dX0_add_69 : decode cX0_add 69 = .ok (.return_, 1) := by decide +kernel
theorem dX0_divisor_0 : decode cX0_divisor 0 = .ok (.lload_n 0, 1) := by decide +kernel
theorem dX0_divisor_1 : decode cX0_divisor 1 = .ok (.lstore 4, 2) := by decide +kernel
theorem dX0_divisor_3 : decode cX0_divisor 3 = .ok (.lload_n 2, 1) := by decide +kernel
theorem dX0_divisor_4 : decode cX0_divisor 4 = .ok (.lstore 6, 2) := by decide +kernel
theorem dX0_divisor_6 : decode cX0_divisor 6 = .ok (.iconst 0, 1) := by decide +kernel
theorem dX0_divisor_7 : decode cX0_divisor 7 = .ok (.istore 8, 2) := by decide +kernel
theorem dX0_divisor_9 : decode cX0_divisor 9 = .ok (.iload 8, 2) := by decide +kernel
theorem dX0_divisor_11 : decode cX0_divisor 11 = .ok (.sipush 200, 3) := by decide +kernel
theorem dX0_divisor_14 : decode cX0_divisor 14 = .ok (.if_icmp .ge 31, 3) := by decide +kernel
theorem dX0_divisor_17 : decode cX0_divisor 17 = .ok (.lload 6, 2) := by decide +kernel
theorem dX0_divisor_19 : decode cX0_divisor 19 = .ok (.lconst 0, 1) := by decide +kernel
theorem dX0_divisor_20 : decode cX0_divisor 20 = .ok (.lcmp, 1) := by decide +kernel
theorem dX0_divisor_21 : decode cX0_divisor 21 = .ok (.ifCond .eq 24, 3) := by decide +kernel
theorem dX0_divisor_24 : decode cX0_divisor 24 = .ok (.lload 4, 2) := by decide +kernel
theorem dX0_divisor_26 : decode cX0_divisor 26 = .ok (.lload 6, 2) := by decide +kernel
theorem dX0_divisor_28 : decode cX0_divisor 28 = .ok (.lrem, 1) := by decide +kernel
theorem dX0_divisor_29 : decode cX0_divisor 29 = .ok (.lstore 9, 2) := by decide +kernel
theorem dX0_divisor_31 : decode cX0_divisor 31 = .ok (.lload 6, 2) := by decide +kernel
theorem dX0_divisor_33 : decode cX0_divisor 33 = .ok (.lstore 4, 2) := by decide +kernel
theorem dX0_divisor_35 : decode cX0_divisor 35 = .ok (.lload 9, 2) := by decide +kernel
theorem dX0_divisor_37 : decode cX0_divisor 37 = .ok (.lstore 6, 2) := by decide +kernel
theorem dX0_divisor_39 : decode cX0_divisor 39 = .ok (.iinc 8 1, 3) := by decide +kernel
theorem dX0_divisor_42 : decode cX0_divisor 42 = .ok (.goto (-33), 3) := by decide +kernel
theorem dX0_divisor_45 : decode cX0_divisor 45 = .ok (.lload 4, 2) := by decide +kernel
theorem dX0_divisor_47 : decode cX0_divisor 47 = .ok (.lconst 0, 1) := by decide +kernel
theorem dX0_divisor_48 : decode cX0_divisor 48 = .ok (.lcmp, 1) := by decide +kernel
theorem dX0_divisor_49 : decode cX0_divisor 49 = .ok (.ifCond .le 8, 3) := by decide +kernel
theorem dX0_divisor_52 : decode cX0_divisor 52 = .ok (.lload 4, 2) := by decide +kernel
theorem dX0_divisor_54 : decode cX0_divisor 54 = .ok (.goto 4, 3) := by decide +kernel
theorem dX0_divisor_57 : decode cX0_divisor 57 = .ok (.lconst 1, 1) := by decide +kernel
theorem dX0_divisor_58 : decode cX0_divisor 58 = .ok (.lreturn, 1) := by decide +kernel
theorem dX0_drawYears_0 : decode cX0_drawYears 0 = .ok (.aload_n 0, 1) := by decide +kernel
theorem dX0_drawYears_1 : decode cX0_drawYears 1 = .ok (.aload_n 1, 1) := by decide +kernel
theorem dX0_drawYears_2 : decode cX0_drawYears 2 = .ok (.putfield 18, 3) := by decide +kernel
theorem dX0_drawYears_5 : decode cX0_drawYears 5 = .ok (.aload_n 0, 1) := by decide +kernel
theorem dX0_drawYears_6 : decode cX0_drawYears 6 = .ok (.iload_n 2, 1) := by decide +kernel
theorem dX0_drawYears_7 : decode cX0_drawYears 7 = .ok (.i2l, 1) := by decide +kernel
theorem dX0_drawYears_8 : decode cX0_drawYears 8 = .ok (.putfield 67, 3) := by decide +kernel
theorem dX0_drawYears_11 : decode cX0_drawYears 11 = .ok (.aload_n 0, 1) := by decide +kernel
theorem dX0_drawYears_12 : decode cX0_drawYears 12 = .ok (.iconst 0, 1) := by decide +kernel
theorem dX0_drawYears_13 : decode cX0_drawYears 13 = .ok (.putfield 70, 3) := by decide +kernel
theorem dX0_drawYears_16 : decode cX0_drawYears 16 = .ok (.aload_n 0, 1) := by decide +kernel
theorem dX0_drawYears_17 : decode cX0_drawYears 17 = .ok (.getfield 18, 3) := by decide +kernel
theorem dX0_drawYears_20 : decode cX0_drawYears 20 = .ok (.getfield 73, 3) := by decide +kernel
theorem dX0_drawYears_23 : decode cX0_drawYears 23 = .ok (.iconst 0, 1) := by decide +kernel
theorem dX0_drawYears_24 : decode cX0_drawYears 24 = .ok (.aload_n 0, 1) := by decide +kernel
theorem dX0_drawYears_25 : decode cX0_drawYears 25 = .ok (.getfield 15, 3) := by decide +kernel
theorem dX0_drawYears_28 : decode cX0_drawYears 28 = .ok (.iconst 0, 1) := by decide +kernel
theorem dX0_drawYears_29 : decode cX0_drawYears 29 = .ok (.iconst 4, 1) := by decide +kernel
theorem dX0_drawYears_30 : decode cX0_drawYears 30 = .ok (.invokestatic 76, 3) := by decide +kernel
theorem dX0_drawYears_33 : decode cX0_drawYears 33 = .ok (.iconst 0, 1) := by decide +kernel
theorem dX0_drawYears_34 : decode cX0_drawYears 34 = .ok (.istore 4, 2) := by decide +kernel
theorem dX0_drawYears_36 : decode cX0_drawYears 36 = .ok (.iload 4, 2) := by decide +kernel
theorem dX0_drawYears_38 : decode cX0_drawYears 38 = .ok (.iload_n 3, 1) := by decide +kernel
theorem dX0_drawYears_39 : decode cX0_drawYears 39 = .ok (.if_icmp .ge 36, 3) := by decide +kernel
theorem dX0_drawYears_42 : decode cX0_drawYears 42 = .ok (.iconst 0, 1) := by decide +kernel
theorem dX0_drawYears_43 : decode cX0_drawYears 43 = .ok (.istore 5, 2) := by decide +kernel
theorem dX0_drawYears_45 : decode cX0_drawYears 45 = .ok (.iload 5, 2) := by decide +kernel
theorem dX0_drawYears_47 : decode cX0_drawYears 47 = .ok (.aload_n 0, 1) := by decide +kernel
theorem dX0_drawYears_48 : decode cX0_drawYears 48 = .ok (.getfield 18, 3) := by decide +kernel
theorem dX0_drawYears_51 : decode cX0_drawYears 51 = .ok (.getfield 82, 3) := by decide +kernel
theorem dX0_drawYears_54 : decode cX0_drawYears 54 = .ok (.if_icmp .ge 15, 3) := by decide +kernel
theorem dX0_drawYears_57 : decode cX0_drawYears 57 = .ok (.aload_n 0, 1) := by decide +kernel
theorem dX0_drawYears_58 : decode cX0_drawYears 58 = .ok (.iload 5, 2) := by decide +kernel
theorem dX0_drawYears_60 : decode cX0_drawYears 60 = .ok (.invokevirtual 85, 3) := by decide +kernel
theorem dX0_drawYears_63 : decode cX0_drawYears 63 = .ok (.iinc 5 1, 3) := by decide +kernel
theorem dX0_drawYears_66 : decode cX0_drawYears 66 = .ok (.goto (-21), 3) := by decide +kernel
theorem dX0_drawYears_69 : decode cX0_drawYears 69 = .ok (.iinc 4 1, 3) := by decide +kernel
theorem dX0_drawYears_72 : decode cX0_drawYears 72 = .ok (.goto (-36), 3) := by decide +kernel
theorem dX0_drawYears_75 : decode cX0_drawYears 75 = .ok (.return_, 1) := by decide +kernel
theorem dX0_drawStretch_0 : decode cX0_drawStretch 0 = .ok (.iconst 0, 1) := by decide +kernel
theorem dX0_drawStretch_1 : decode cX0_drawStretch 1 = .ok (.istore_n 2, 1) := by decide +kernel
theorem dX0_drawStretch_2 : decode cX0_drawStretch 2 = .ok (.iconst 0, 1) := by decide +kernel
theorem dX0_drawStretch_3 : decode cX0_drawStretch 3 = .ok (.istore_n 3, 1) := by decide +kernel
theorem dX0_drawStretch_4 : decode cX0_drawStretch 4 = .ok (.iconst 0, 1) := by decide +kernel
theorem dX0_drawStretch_5 : decode cX0_drawStretch 5 = .ok (.istore 4, 2) := by decide +kernel
theorem dX0_drawStretch_7 : decode cX0_drawStretch 7 = .ok (.iload 4, 2) := by decide +kernel
theorem dX0_drawStretch_9 : decode cX0_drawStretch 9 = .ok (.aload_n 0, 1) := by decide +kernel
theorem dX0_drawStretch_10 : decode cX0_drawStretch 10 = .ok (.getfield 18, 3) := by decide +kernel
theorem dX0_drawStretch_13 : decode cX0_drawStretch 13 = .ok (.getfield 47, 3) := by decide +kernel
theorem dX0_drawStretch_16 : decode cX0_drawStretch 16 = .ok (.if_icmp .ge 62, 3) := by decide +kernel
theorem dX0_drawStretch_19 : decode cX0_drawStretch 19 = .ok (.aload_n 0, 1) := by decide +kernel
theorem dX0_drawStretch_20 : decode cX0_drawStretch 20 = .ok (.iload_n 2, 1) := by decide +kernel
theorem dX0_drawStretch_21 : decode cX0_drawStretch 21 = .ok (.invokevirtual 89, 3) := by decide +kernel
theorem dX0_drawStretch_24 : decode cX0_drawStretch 24 = .ok (.istore 5, 2) := by decide +kernel
theorem dX0_drawStretch_26 : decode cX0_drawStretch 26 = .ok (.aload_n 0, 1) := by decide +kernel
theorem dX0_drawStretch_27 : decode cX0_drawStretch 27 = .ok (.getfield 18, 3) := by decide +kernel
theorem dX0_drawStretch_30 : decode cX0_drawStretch 30 = .ok (.iload_n 1, 1) := by decide +kernel
theorem dX0_drawStretch_31 : decode cX0_drawStretch 31 = .ok (.iload 5, 2) := by decide +kernel
theorem dX0_drawStretch_33 : decode cX0_drawStretch 33 = .ok (.iload_n 3, 1) := by decide +kernel
theorem dX0_drawStretch_34 : decode cX0_drawStretch 34 = .ok (.invokevirtual 52, 3) := by decide +kernel
theorem dX0_drawStretch_37 : decode cX0_drawStretch 37 = .ok (.istore 6, 2) := by decide +kernel
theorem dX0_drawStretch_39 : decode cX0_drawStretch 39 = .ok (.aload_n 0, 1) := by decide +kernel
theorem dX0_drawStretch_40 : decode cX0_drawStretch 40 = .ok (.getfield 9, 3) := by decide +kernel
theorem dX0_drawStretch_43 : decode cX0_drawStretch 43 = .ok (.iload 5, 2) := by decide +kernel
theorem dX0_drawStretch_45 : decode cX0_drawStretch 45 = .ok (.iload 6, 2) := by decide +kernel
theorem dX0_drawStretch_47 : decode cX0_drawStretch 47 = .ok (.iastore, 1) := by decide +kernel
theorem dX0_drawStretch_48 : decode cX0_drawStretch 48 = .ok (.iload_n 2, 1) := by decide +kernel
theorem dX0_drawStretch_49 : decode cX0_drawStretch 49 = .ok (.iconst 1, 1) := by decide +kernel
theorem dX0_drawStretch_50 : decode cX0_drawStretch 50 = .ok (.iload 5, 2) := by decide +kernel
theorem dX0_drawStretch_52 : decode cX0_drawStretch 52 = .ok (.ishl, 1) := by decide +kernel
theorem dX0_drawStretch_53 : decode cX0_drawStretch 53 = .ok (.ior, 1) := by decide +kernel
theorem dX0_drawStretch_54 : decode cX0_drawStretch 54 = .ok (.istore_n 2, 1) := by decide +kernel
theorem dX0_drawStretch_55 : decode cX0_drawStretch 55 = .ok (.iload 6, 2) := by decide +kernel
theorem dX0_drawStretch_57 : decode cX0_drawStretch 57 = .ok (.iconst (-1), 1) := by decide +kernel
theorem dX0_drawStretch_58 : decode cX0_drawStretch 58 = .ok (.if_icmp .ne 7, 3) := by decide +kernel
theorem dX0_drawStretch_61 : decode cX0_drawStretch 61 = .ok (.iload_n 3, 1) := by decide +kernel
theorem dX0_drawStretch_62 : decode cX0_drawStretch 62 = .ok (.goto 9, 3) := by decide +kernel
theorem dX0_drawStretch_65 : decode cX0_drawStretch 65 = .ok (.iload_n 3, 1) := by decide +kernel
theorem dX0_drawStretch_66 : decode cX0_drawStretch 66 = .ok (.iconst 1, 1) := by decide +kernel
theorem dX0_drawStretch_67 : decode cX0_drawStretch 67 = .ok (.iload 6, 2) := by decide +kernel
theorem dX0_drawStretch_69 : decode cX0_drawStretch 69 = .ok (.ishl, 1) := by decide +kernel
theorem dX0_drawStretch_70 : decode cX0_drawStretch 70 = .ok (.ior, 1) := by decide +kernel
theorem dX0_drawStretch_71 : decode cX0_drawStretch 71 = .ok (.istore_n 3, 1) := by decide +kernel
theorem dX0_drawStretch_72 : decode cX0_drawStretch 72 = .ok (.iinc 4 1, 3) := by decide +kernel
theorem dX0_drawStretch_75 : decode cX0_drawStretch 75 = .ok (.goto (-68), 3) := by decide +kernel
theorem dX0_drawStretch_78 : decode cX0_drawStretch 78 = .ok (.iconst 0, 1) := by decide +kernel
theorem dX0_drawStretch_79 : decode cX0_drawStretch 79 = .ok (.istore 4, 2) := by decide +kernel
theorem dX0_drawStretch_81 : decode cX0_drawStretch 81 = .ok (.iload 4, 2) := by decide +kernel
theorem dX0_drawStretch_83 : decode cX0_drawStretch 83 = .ok (.aload_n 0, 1) := by decide +kernel
theorem dX0_drawStretch_84 : decode cX0_drawStretch 84 = .ok (.getfield 18, 3) := by decide +kernel
theorem dX0_drawStretch_87 : decode cX0_drawStretch 87 = .ok (.getfield 47, 3) := by decide +kernel
theorem dX0_drawStretch_90 : decode cX0_drawStretch 90 = .ok (.if_icmp .ge 57, 3) := by decide +kernel
theorem dX0_drawStretch_93 : decode cX0_drawStretch 93 = .ok (.aload_n 0, 1) := by decide +kernel
theorem dX0_drawStretch_94 : decode cX0_drawStretch 94 = .ok (.getfield 9, 3) := by decide +kernel
theorem dX0_drawStretch_97 : decode cX0_drawStretch 97 = .ok (.iload 4, 2) := by decide +kernel
theorem dX0_drawStretch_99 : decode cX0_drawStretch 99 = .ok (.iaload, 1) := by decide +kernel
theorem dX0_drawStretch_100 : decode cX0_drawStretch 100 = .ok (.iconst (-1), 1) := by decide +kernel
theorem dX0_drawStretch_101 : decode cX0_drawStretch 101 = .ok (.if_icmp .ne 16, 3) := by decide +kernel
theorem dX0_drawStretch_104 : decode cX0_drawStretch 104 = .ok (.aload_n 0, 1) := by decide +kernel
theorem dX0_drawStretch_105 : decode cX0_drawStretch 105 = .ok (.dup, 1) := by decide +kernel
theorem dX0_drawStretch_106 : decode cX0_drawStretch 106 = .ok (.getfield 70, 3) := by decide +kernel
theorem dX0_drawStretch_109 : decode cX0_drawStretch 109 = .ok (.iconst 1, 1) := by decide +kernel
theorem dX0_drawStretch_110 : decode cX0_drawStretch 110 = .ok (.iadd, 1) := by decide +kernel
theorem dX0_drawStretch_111 : decode cX0_drawStretch 111 = .ok (.putfield 70, 3) := by decide +kernel
theorem dX0_drawStretch_114 : decode cX0_drawStretch 114 = .ok (.goto 27, 3) := by decide +kernel
theorem dX0_drawStretch_117 : decode cX0_drawStretch 117 = .ok (.aload_n 0, 1) := by decide +kernel
theorem dX0_drawStretch_118 : decode cX0_drawStretch 118 = .ok (.getfield 15, 3) := by decide +kernel
theorem dX0_drawStretch_121 : decode cX0_drawStretch 121 = .ok (.iload 4, 2) := by decide +kernel
theorem dX0_drawStretch_123 : decode cX0_drawStretch 123 = .ok (.dup2, 1) := by decide +kernel
theorem dX0_drawStretch_124 : decode cX0_drawStretch 124 = .ok (.iaload, 1) := by decide +kernel
theorem dX0_drawStretch_125 : decode cX0_drawStretch 125 = .ok (.aload_n 0, 1) := by decide +kernel
theorem dX0_drawStretch_126 : decode cX0_drawStretch 126 = .ok (.getfield 18, 3) := by decide +kernel
theorem dX0_drawStretch_129 : decode cX0_drawStretch 129 = .ok (.aload_n 0, 1) := by decide +kernel
theorem dX0_drawStretch_130 : decode cX0_drawStretch 130 = .ok (.getfield 9, 3) := by decide +kernel
theorem dX0_drawStretch_133 : decode cX0_drawStretch 133 = .ok (.iload 4, 2) := by decide +kernel
theorem dX0_drawStretch_135 : decode cX0_drawStretch 135 = .ok (.iload_n 1, 1) := by decide +kernel
theorem dX0_drawStretch_136 : decode cX0_drawStretch 136 = .ok (.invokevirtual 92, 3) := by decide +kernel
theorem dX0_drawStretch_139 : decode cX0_drawStretch 139 = .ok (.iadd, 1) := by decide +kernel
theorem dX0_drawStretch_140 : decode cX0_drawStretch 140 = .ok (.iastore, 1) := by decide +kernel
theorem dX0_drawStretch_141 : decode cX0_drawStretch 141 = .ok (.iinc 4 1, 3) := by decide +kernel
theorem dX0_drawStretch_144 : decode cX0_drawStretch 144 = .ok (.goto (-63), 3) := by decide +kernel
theorem dX0_drawStretch_147 : decode cX0_drawStretch 147 = .ok (.return_, 1) := by decide +kernel
theorem dX0_drawOne_0 : decode cX0_drawOne 0 = .ok (.aload_n 0, 1) := by decide +kernel
theorem dX0_drawOne_1 : decode cX0_drawOne 1 = .ok (.iload_n 1, 1) := by decide +kernel
theorem dX0_drawOne_2 : decode cX0_drawOne 2 = .ok (.invokevirtual 43, 3) := by decide +kernel
theorem dX0_drawOne_5 : decode cX0_drawOne 5 = .ok (.istore_n 2, 1) := by decide +kernel
theorem dX0_drawOne_6 : decode cX0_drawOne 6 = .ok (.aload_n 0, 1) := by decide +kernel
theorem dX0_drawOne_7 : decode cX0_drawOne 7 = .ok (.aload_n 0, 1) := by decide +kernel
theorem dX0_drawOne_8 : decode cX0_drawOne 8 = .ok (.getfield 67, 3) := by decide +kernel
theorem dX0_drawOne_11 : decode cX0_drawOne 11 = .ok (.ldc2_w 96, 3) := by decide +kernel
theorem dX0_drawOne_14 : decode cX0_drawOne 14 = .ok (.lmul, 1) := by decide +kernel
theorem dX0_drawOne_15 : decode cX0_drawOne 15 = .ok (.ldc2_w 98, 3) := by decide +kernel
theorem dX0_drawOne_18 : decode cX0_drawOne 18 = .ok (.ladd, 1) := by decide +kernel
theorem dX0_drawOne_19 : decode cX0_drawOne 19 = .ok (.ldc2_w 100, 3) := by decide +kernel
theorem dX0_drawOne_22 : decode cX0_drawOne 22 = .ok (.lrem, 1) := by decide +kernel
theorem dX0_drawOne_23 : decode cX0_drawOne 23 = .ok (.putfield 67, 3) := by decide +kernel
theorem dX0_drawOne_26 : decode cX0_drawOne 26 = .ok (.iload_n 2, 1) := by decide +kernel
theorem dX0_drawOne_27 : decode cX0_drawOne 27 = .ok (.ifCond .le 17, 3) := by decide +kernel
theorem dX0_drawOne_30 : decode cX0_drawOne 30 = .ok (.aload_n 0, 1) := by decide +kernel
theorem dX0_drawOne_31 : decode cX0_drawOne 31 = .ok (.getfield 67, 3) := by decide +kernel
theorem dX0_drawOne_34 : decode cX0_drawOne 34 = .ok (.ldc2_w 102, 3) := by decide +kernel
theorem dX0_drawOne_37 : decode cX0_drawOne 37 = .ok (.ldiv, 1) := by decide +kernel
theorem dX0_drawOne_38 : decode cX0_drawOne 38 = .ok (.iload_n 2, 1) := by decide +kernel
theorem dX0_drawOne_39 : decode cX0_drawOne 39 = .ok (.i2l, 1) := by decide +kernel
theorem dX0_drawOne_40 : decode cX0_drawOne 40 = .ok (.lrem, 1) := by decide +kernel
theorem dX0_drawOne_41 : decode cX0_drawOne 41 = .ok (.goto 4, 3) := by decide +kernel
theorem dX0_drawOne_44 : decode cX0_drawOne 44 = .ok (.lconst 0, 1) := by decide +kernel
theorem dX0_drawOne_45 : decode cX0_drawOne 45 = .ok (.lstore_n 3, 1) := by decide +kernel
theorem dX0_drawOne_46 : decode cX0_drawOne 46 = .ok (.iconst 0, 1) := by decide +kernel
theorem dX0_drawOne_47 : decode cX0_drawOne 47 = .ok (.istore 5, 2) := by decide +kernel
theorem dX0_drawOne_49 : decode cX0_drawOne 49 = .ok (.iconst 0, 1) := by decide +kernel
theorem dX0_drawOne_50 : decode cX0_drawOne 50 = .ok (.istore 6, 2) := by decide +kernel
theorem dX0_drawOne_52 : decode cX0_drawOne 52 = .ok (.iload 6, 2) := by decide +kernel
theorem dX0_drawOne_54 : decode cX0_drawOne 54 = .ok (.aload_n 0, 1) := by decide +kernel
theorem dX0_drawOne_55 : decode cX0_drawOne 55 = .ok (.getfield 18, 3) := by decide +kernel
theorem dX0_drawOne_58 : decode cX0_drawOne 58 = .ok (.getfield 47, 3) := by decide +kernel
theorem dX0_drawOne_61 : decode cX0_drawOne 61 = .ok (.if_icmp .ge 45, 3) := by decide +kernel
theorem dX0_drawOne_64 : decode cX0_drawOne 64 = .ok (.iload_n 1, 1) := by decide +kernel
theorem dX0_drawOne_65 : decode cX0_drawOne 65 = .ok (.iload 6, 2) := by decide +kernel
theorem dX0_drawOne_67 : decode cX0_drawOne 67 = .ok (.ishr, 1) := by decide +kernel
theorem dX0_drawOne_68 : decode cX0_drawOne 68 = .ok (.iconst 1, 1) := by decide +kernel
theorem dX0_drawOne_69 : decode cX0_drawOne 69 = .ok (.iand, 1) := by decide +kernel
theorem dX0_drawOne_70 : decode cX0_drawOne 70 = .ok (.ifCond .ne 30, 3) := by decide +kernel
theorem dX0_drawOne_73 : decode cX0_drawOne 73 = .ok (.iload 6, 2) := by decide +kernel
theorem dX0_drawOne_75 : decode cX0_drawOne 75 = .ok (.istore 5, 2) := by decide +kernel
theorem dX0_drawOne_77 : decode cX0_drawOne 77 = .ok (.lload_n 3, 1) := by decide +kernel
theorem dX0_drawOne_78 : decode cX0_drawOne 78 = .ok (.aload_n 0, 1) := by decide +kernel
theorem dX0_drawOne_79 : decode cX0_drawOne 79 = .ok (.getfield 18, 3) := by decide +kernel
theorem dX0_drawOne_82 : decode cX0_drawOne 82 = .ok (.getfield 56, 3) := by decide +kernel
theorem dX0_drawOne_85 : decode cX0_drawOne 85 = .ok (.iload 6, 2) := by decide +kernel
theorem dX0_drawOne_87 : decode cX0_drawOne 87 = .ok (.iaload, 1) := by decide +kernel
theorem dX0_drawOne_88 : decode cX0_drawOne 88 = .ok (.i2l, 1) := by decide +kernel
theorem dX0_drawOne_89 : decode cX0_drawOne 89 = .ok (.lsub, 1) := by decide +kernel
theorem dX0_drawOne_90 : decode cX0_drawOne 90 = .ok (.lstore_n 3, 1) := by decide +kernel
theorem dX0_drawOne_91 : decode cX0_drawOne 91 = .ok (.lload_n 3, 1) := by decide +kernel
theorem dX0_drawOne_92 : decode cX0_drawOne 92 = .ok (.lconst 0, 1) := by decide +kernel
theorem dX0_drawOne_93 : decode cX0_drawOne 93 = .ok (.lcmp, 1) := by decide +kernel
theorem dX0_drawOne_94 : decode cX0_drawOne 94 = .ok (.ifCond .ge 6, 3) := by decide +kernel
theorem dX0_drawOne_97 : decode cX0_drawOne 97 = .ok (.iload 6, 2) := by decide +kernel
theorem dX0_drawOne_99 : decode cX0_drawOne 99 = .ok (.ireturn, 1) := by decide +kernel
theorem dX0_drawOne_100 : decode cX0_drawOne 100 = .ok (.iinc 6 1, 3) := by decide +kernel
theorem dX0_drawOne_103 : decode cX0_drawOne 103 = .ok (.goto (-51), 3) := by decide +kernel
theorem dX0_drawOne_106 : decode cX0_drawOne 106 = .ok (.iload 5, 2) := by decide +kernel
theorem dX0_drawOne_108 : decode cX0_drawOne 108 = .ok (.ireturn, 1) := by decide +kernel
theorem dX1_init_0 : decode cX1_init 0 = .ok (.aload_n 0, 1) := by decide +kernel
theorem dX1_init_1 : decode cX1_init 1 = .ok (.invokespecial 3, 3) := by decide +kernel
theorem dX1_init_4 : decode cX1_init 4 = .ok (.aload_n 0, 1) := by decide +kernel
theorem dX1_init_5 : decode cX1_init 5 = .ok (.iconst 4, 1) := by decide +kernel
theorem dX1_init_6 : decode cX1_init 6 = .ok (.newarray .int, 2) := by decide +kernel
theorem dX1_init_8 : decode cX1_init 8 = .ok (.putfield 9, 3) := by decide +kernel
theorem dX1_init_11 : decode cX1_init 11 = .ok (.aload_n 0, 1) := by decide +kernel
theorem dX1_init_12 : decode cX1_init 12 = .ok (.sipush 384, 3) := by decide +kernel
theorem dX1_init_15 : decode cX1_init 15 = .ok (.newarray .int, 2) := by decide +kernel
theorem dX1_init_17 : decode cX1_init 17 = .ok (.putfield 15, 3) := by decide +kernel
theorem dX1_init_20 : decode cX1_init 20 = .ok (.aload_n 0, 1) := by decide +kernel
theorem dX1_init_21 : decode cX1_init 21 = .ok (.sipush 1920, 3) := by decide +kernel
theorem dX1_init_24 : decode cX1_init 24 = .ok (.newarray .int, 2) := by decide +kernel
theorem dX1_init_26 : decode cX1_init 26 = .ok (.putfield 18, 3) := by decide +kernel
theorem dX1_init_29 : decode cX1_init 29 = .ok (.aload_n 0, 1) := by decide +kernel
theorem dX1_init_30 : decode cX1_init 30 = .ok (.bipush 96, 2) := by decide +kernel
theorem dX1_init_32 : decode cX1_init 32 = .ok (.newarray .int, 2) := by decide +kernel
theorem dX1_init_34 : decode cX1_init 34 = .ok (.putfield 21, 3) := by decide +kernel
theorem dX1_init_37 : decode cX1_init 37 = .ok (.aload_n 0, 1) := by decide +kernel
theorem dX1_init_38 : decode cX1_init 38 = .ok (.bipush 20, 2) := by decide +kernel
theorem dX1_init_40 : decode cX1_init 40 = .ok (.newarray .int, 2) := by decide +kernel
theorem dX1_init_42 : decode cX1_init 42 = .ok (.putfield 24, 3) := by decide +kernel
theorem dX1_init_45 : decode cX1_init 45 = .ok (.aload_n 0, 1) := by decide +kernel
theorem dX1_init_46 : decode cX1_init 46 = .ok (.iconst 4, 1) := by decide +kernel
theorem dX1_init_47 : decode cX1_init 47 = .ok (.newarray .int, 2) := by decide +kernel
theorem dX1_init_49 : decode cX1_init 49 = .ok (.putfield 27, 3) := by decide +kernel
theorem dX1_init_52 : decode cX1_init 52 = .ok (.aload_n 0, 1) := by decide +kernel
theorem dX1_init_53 : decode cX1_init 53 = .ok (.iconst 4, 1) := by decide +kernel
theorem dX1_init_54 : decode cX1_init 54 = .ok (.newarray .int, 2) := by decide +kernel
theorem dX1_init_56 : decode cX1_init 56 = .ok (.putfield 30, 3) := by decide +kernel
theorem dX1_init_59 : decode cX1_init 59 = .ok (.aload_n 0, 1) := by decide +kernel
theorem dX1_init_60 : decode cX1_init 60 = .ok (.iconst 4, 1) := by decide +kernel
theorem dX1_init_61 : decode cX1_init 61 = .ok (.newarray .int, 2) := by decide +kernel
theorem dX1_init_63 : decode cX1_init 63 = .ok (.putfield 33, 3) := by decide +kernel
theorem dX1_init_66 : decode cX1_init 66 = .ok (.aload_n 0, 1) := by decide +kernel
theorem dX1_init_67 : decode cX1_init 67 = .ok (.bipush 78, 2) := by decide +kernel
theorem dX1_init_69 : decode cX1_init 69 = .ok (.newarray .int, 2) := by decide +kernel
theorem dX1_init_71 : decode cX1_init 71 = .ok (.putfield 36, 3) := by decide +kernel
theorem dX1_init_74 : decode cX1_init 74 = .ok (.return_, 1) := by decide +kernel
theorem dX1_begin_0 : decode cX1_begin 0 = .ok (.aload_n 0, 1) := by decide +kernel
theorem dX1_begin_1 : decode cX1_begin 1 = .ok (.aload_n 1, 1) := by decide +kernel
theorem dX1_begin_2 : decode cX1_begin 2 = .ok (.putfield 39, 3) := by decide +kernel
theorem dX1_begin_5 : decode cX1_begin 5 = .ok (.aload_n 0, 1) := by decide +kernel
theorem dX1_begin_6 : decode cX1_begin 6 = .ok (.iconst 0, 1) := by decide +kernel
theorem dX1_begin_7 : decode cX1_begin 7 = .ok (.putfield 43, 3) := by decide +kernel
theorem dX1_begin_10 : decode cX1_begin 10 = .ok (.aload_n 0, 1) := by decide +kernel
theorem dX1_begin_11 : decode cX1_begin 11 = .ok (.iconst 0, 1) := by decide +kernel
theorem dX1_begin_12 : decode cX1_begin 12 = .ok (.putfield 47, 3) := by decide +kernel
theorem dX1_begin_15 : decode cX1_begin 15 = .ok (.aload_n 0, 1) := by decide +kernel
theorem dX1_begin_16 : decode cX1_begin 16 = .ok (.iconst 0, 1) := by decide +kernel
theorem dX1_begin_17 : decode cX1_begin 17 = .ok (.putfield 51, 3) := by decide +kernel
theorem dX1_begin_20 : decode cX1_begin 20 = .ok (.aload_n 0, 1) := by decide +kernel
theorem dX1_begin_21 : decode cX1_begin 21 = .ok (.ldc 56, 2) := by decide +kernel
theorem dX1_begin_23 : decode cX1_begin 23 = .ok (.putfield 57, 3) := by decide +kernel
theorem dX1_begin_26 : decode cX1_begin 26 = .ok (.return_, 1) := by decide +kernel
theorem dX1_evenestOf_0 : decode cX1_evenestOf 0 = .ok (.iload_n 1, 1) := by decide +kernel
theorem dX1_evenestOf_1 : decode cX1_evenestOf 1 = .ok (.ifCond .lt 19, 3) := by decide +kernel
theorem dX1_evenestOf_4 : decode cX1_evenestOf 4 = .ok (.iload_n 1, 1) := by decide +kernel
theorem dX1_evenestOf_5 : decode cX1_evenestOf 5 = .ok (.bipush 12, 2) := by decide +kernel
theorem dX1_evenestOf_7 : decode cX1_evenestOf 7 = .ok (.if_icmp .gt 13, 3) := by decide +kernel
theorem dX1_evenestOf_10 : decode cX1_evenestOf 10 = .ok (.iload_n 2, 1) := by decide +kernel
theorem dX1_evenestOf_11 : decode cX1_evenestOf 11 = .ok (.ifCond .lt 9, 3) := by decide +kernel
theorem dX1_evenestOf_14 : decode cX1_evenestOf 14 = .ok (.iload_n 2, 1) := by decide +kernel
theorem dX1_evenestOf_15 : decode cX1_evenestOf 15 = .ok (.bipush 6, 2) := by decide +kernel
theorem dX1_evenestOf_17 : decode cX1_evenestOf 17 = .ok (.if_icmp .lt 5, 3) := by decide +kernel
theorem dX1_evenestOf_20 : decode cX1_evenestOf 20 = .ok (.iconst (-1), 1) := by decide +kernel
theorem dX1_evenestOf_21 : decode cX1_evenestOf 21 = .ok (.ireturn, 1) := by decide +kernel
theorem dX1_evenestOf_22 : decode cX1_evenestOf 22 = .ok (.aload_n 0, 1) := by decide +kernel
theorem dX1_evenestOf_23 : decode cX1_evenestOf 23 = .ok (.getfield 47, 3) := by decide +kernel
theorem dX1_evenestOf_26 : decode cX1_evenestOf 26 = .ok (.iload_n 1, 1) := by decide +kernel
theorem dX1_evenestOf_27 : decode cX1_evenestOf 27 = .ok (.ishr, 1) := by decide +kernel
theorem dX1_evenestOf_28 : decode cX1_evenestOf 28 = .ok (.iconst 1, 1) := by decide +kernel
theorem dX1_evenestOf_29 : decode cX1_evenestOf 29 = .ok (.iand, 1) := by decide +kernel
theorem dX1_evenestOf_30 : decode cX1_evenestOf 30 = .ok (.ifCond .ne 45, 3) := by decide +kernel
theorem dX1_evenestOf_33 : decode cX1_evenestOf 33 = .ok (.aload_n 0, 1) := by decide +kernel
theorem dX1_evenestOf_34 : decode cX1_evenestOf 34 = .ok (.dup, 1) := by decide +kernel
theorem dX1_evenestOf_35 : decode cX1_evenestOf 35 = .ok (.getfield 47, 3) := by decide +kernel
theorem dX1_evenestOf_38 : decode cX1_evenestOf 38 = .ok (.iconst 1, 1) := by decide +kernel
theorem dX1_evenestOf_39 : decode cX1_evenestOf 39 = .ok (.iload_n 1, 1) := by decide +kernel
theorem dX1_evenestOf_40 : decode cX1_evenestOf 40 = .ok (.ishl, 1) := by decide +kernel
theorem dX1_evenestOf_41 : decode cX1_evenestOf 41 = .ok (.ior, 1) := by decide +kernel
theorem dX1_evenestOf_42 : decode cX1_evenestOf 42 = .ok (.putfield 47, 3) := by decide +kernel
theorem dX1_evenestOf_45 : decode cX1_evenestOf 45 = .ok (.aload_n 0, 1) := by decide +kernel
theorem dX1_evenestOf_46 : decode cX1_evenestOf 46 = .ok (.getfield 39, 3) := by decide +kernel
theorem dX1_evenestOf_49 : decode cX1_evenestOf 49 = .ok (.getfield 60, 3) := by decide +kernel
theorem dX1_evenestOf_52 : decode cX1_evenestOf 52 = .ok (.iconst 0, 1) := by decide +kernel
theorem dX1_evenestOf_53 : decode cX1_evenestOf 53 = .ok (.aload_n 0, 1) := by decide +kernel
theorem dX1_evenestOf_54 : decode cX1_evenestOf 54 = .ok (.getfield 24, 3) := by decide +kernel
theorem dX1_evenestOf_57 : decode cX1_evenestOf 57 = .ok (.iconst 0, 1) := by decide +kernel
theorem dX1_evenestOf_58 : decode cX1_evenestOf 58 = .ok (.iconst 4, 1) := by decide +kernel
theorem dX1_evenestOf_59 : decode cX1_evenestOf 59 = .ok (.invokestatic 65, 3) := by decide +kernel
theorem dX1_evenestOf_62 : decode cX1_evenestOf 62 = .ok (.aload_n 0, 1) := by decide +kernel
theorem dX1_evenestOf_63 : decode cX1_evenestOf 63 = .ok (.iload_n 1, 1) := by decide +kernel
theorem dX1_evenestOf_64 : decode cX1_evenestOf 64 = .ok (.invokevirtual 71, 3) := by decide +kernel
theorem dX1_evenestOf_67 : decode cX1_evenestOf 67 = .ok (.aload_n 0, 1) := by decide +kernel
theorem dX1_evenestOf_68 : decode cX1_evenestOf 68 = .ok (.iload_n 1, 1) := by decide +kernel
theorem dX1_evenestOf_69 : decode cX1_evenestOf 69 = .ok (.bipush 6, 2) := by decide +kernel
theorem dX1_evenestOf_71 : decode cX1_evenestOf 71 = .ok (.imul, 1) := by decide +kernel
theorem dX1_evenestOf_72 : decode cX1_evenestOf 72 = .ok (.invokevirtual 75, 3) := by decide +kernel
theorem dX1_evenestOf_75 : decode cX1_evenestOf 75 = .ok (.aload_n 0, 1) := by decide +kernel
theorem dX1_evenestOf_76 : decode cX1_evenestOf 76 = .ok (.getfield 36, 3) := by decide +kernel
theorem dX1_evenestOf_79 : decode cX1_evenestOf 79 = .ok (.iload_n 1, 1) := by decide +kernel
theorem dX1_evenestOf_80 : decode cX1_evenestOf 80 = .ok (.bipush 6, 2) := by decide +kernel
theorem dX1_evenestOf_82 : decode cX1_evenestOf 82 = .ok (.imul, 1) := by decide +kernel
theorem dX1_evenestOf_83 : decode cX1_evenestOf 83 = .ok (.iload_n 2, 1) := by decide +kernel
theorem dX1_evenestOf_84 : decode cX1_evenestOf 84 = .ok (.iadd, 1) := by decide +kernel
theorem dX1_evenestOf_85 : decode cX1_evenestOf 85 = .ok (.iaload, 1) := by decide +kernel
theorem dX1_evenestOf_86 : decode cX1_evenestOf 86 = .ok (.ireturn, 1) := by decide +kernel
theorem dX1_greatestLeast_0 : decode cX1_greatestLeast 0 = .ok (.aload_n 0, 1) := by decide +kernel
theorem dX1_greatestLeast_1 : decode cX1_greatestLeast 1 = .ok (.getfield 57, 3) := by decide +kernel
theorem dX1_greatestLeast_4 : decode cX1_greatestLeast 4 = .ok (.ldc 56, 2) := by decide +kernel
theorem dX1_greatestLeast_6 : decode cX1_greatestLeast 6 = .ok (.if_icmp .ne 46, 3) := by decide +kernel
theorem dX1_greatestLeast_9 : decode cX1_greatestLeast 9 = .ok (.aload_n 0, 1) := by decide +kernel
theorem dX1_greatestLeast_10 : decode cX1_greatestLeast 10 = .ok (.getfield 39, 3) := by decide +kernel
theorem dX1_greatestLeast_13 : decode cX1_greatestLeast 13 = .ok (.getfield 60, 3) := by decide +kernel
theorem dX1_greatestLeast_16 : decode cX1_greatestLeast 16 = .ok (.iconst 0, 1) := by decide +kernel
theorem dX1_greatestLeast_17 : decode cX1_greatestLeast 17 = .ok (.aload_n 0, 1) := by decide +kernel
theorem dX1_greatestLeast_18 : decode cX1_greatestLeast 18 = .ok (.getfield 24, 3) := by decide +kernel
theorem dX1_greatestLeast_21 : decode cX1_greatestLeast 21 = .ok (.iconst 0, 1) := by decide +kernel
theorem dX1_greatestLeast_22 : decode cX1_greatestLeast 22 = .ok (.iconst 4, 1) := by decide +kernel
theorem dX1_greatestLeast_23 : decode cX1_greatestLeast 23 = .ok (.invokestatic 65, 3) := by decide +kernel
theorem dX1_greatestLeast_26 : decode cX1_greatestLeast 26 = .ok (.aload_n 0, 1) := by decide +kernel
theorem dX1_greatestLeast_27 : decode cX1_greatestLeast 27 = .ok (.getfield 39, 3) := by decide +kernel
theorem dX1_greatestLeast_30 : decode cX1_greatestLeast 30 = .ok (.getfield 78, 3) := by decide +kernel
theorem dX1_greatestLeast_33 : decode cX1_greatestLeast 33 = .ok (.ifCond .ne 14, 3) := by decide +kernel
theorem dX1_greatestLeast_36 : decode cX1_greatestLeast 36 = .ok (.aload_n 0, 1) := by decide +kernel
theorem dX1_greatestLeast_37 : decode cX1_greatestLeast 37 = .ok (.aload_n 0, 1) := by decide +kernel
theorem dX1_greatestLeast_38 : decode cX1_greatestLeast 38 = .ok (.invokevirtual 81, 3) := by decide +kernel
theorem dX1_greatestLeast_41 : decode cX1_greatestLeast 41 = .ok (.putfield 57, 3) := by decide +kernel
theorem dX1_greatestLeast_44 : decode cX1_greatestLeast 44 = .ok (.goto 8, 3) := by decide +kernel
theorem dX1_greatestLeast_47 : decode cX1_greatestLeast 47 = .ok (.aload_n 0, 1) := by decide +kernel
theorem dX1_greatestLeast_48 : decode cX1_greatestLeast 48 = .ok (.iconst 0, 1) := by decide +kernel
theorem dX1_greatestLeast_49 : decode cX1_greatestLeast 49 = .ok (.invokevirtual 85, 3) := by decide +kernel
theorem dX1_greatestLeast_52 : decode cX1_greatestLeast 52 = .ok (.aload_n 0, 1) := by decide +kernel
theorem dX1_greatestLeast_53 : decode cX1_greatestLeast 53 = .ok (.getfield 57, 3) := by decide +kernel
theorem dX1_greatestLeast_56 : decode cX1_greatestLeast 56 = .ok (.ireturn, 1) := by decide +kernel
theorem dX1_journeysTillEven_0 : decode cX1_journeysTillEven 0 = .ok (.aload_n 0, 1) := by decide +kernel
theorem dX1_journeysTillEven_1 : decode cX1_journeysTillEven 1 = .ok (.getfield 51, 3) := by decide +kernel
theorem dX1_journeysTillEven_4 : decode cX1_journeysTillEven 4 = .ok (.ifCond .ne 11, 3) := by decide +kernel
theorem dX1_journeysTillEven_7 : decode cX1_journeysTillEven 7 = .ok (.aload_n 0, 1) := by decide +kernel
theorem dX1_journeysTillEven_8 : decode cX1_journeysTillEven 8 = .ok (.aload_n 0, 1) := by decide +kernel
theorem dX1_journeysTillEven_9 : decode cX1_journeysTillEven 9 = .ok (.invokevirtual 88, 3) := by decide +kernel
theorem dX1_journeysTillEven_12 : decode cX1_journeysTillEven 12 = .ok (.putfield 51, 3) := by decide +kernel
theorem dX1_journeysTillEven_15 : decode cX1_journeysTillEven 15 = .ok (.aload_n 0, 1) := by decide +kernel
theorem dX1_journeysTillEven_16 : decode cX1_journeysTillEven 16 = .ok (.getfield 51, 3) := by decide +kernel
theorem dX1_journeysTillEven_19 : decode cX1_journeysTillEven 19 = .ok (.ireturn, 1) := by decide +kernel
theorem dX1_greatestSum_0 : decode cX1_greatestSum 0 = .ok (.aload_n 0, 1) := by decide +kernel
theorem dX1_greatestSum_1 : decode cX1_greatestSum 1 = .ok (.invokevirtual 91, 3) := by decide +kernel
theorem dX1_greatestSum_4 : decode cX1_greatestSum 4 = .ok (.iconst 0, 1) := by decide +kernel
theorem dX1_greatestSum_5 : decode cX1_greatestSum 5 = .ok (.istore_n 2, 1) := by decide +kernel
theorem dX1_greatestSum_6 : decode cX1_greatestSum 6 = .ok (.iconst 0, 1) := by decide +kernel
theorem dX1_greatestSum_7 : decode cX1_greatestSum 7 = .ok (.istore_n 3, 1) := by decide +kernel
theorem dX1_greatestSum_8 : decode cX1_greatestSum 8 = .ok (.iload_n 3, 1) := by decide +kernel
theorem dX1_greatestSum_9 : decode cX1_greatestSum 9 = .ok (.aload_n 0, 1) := by decide +kernel
theorem dX1_greatestSum_10 : decode cX1_greatestSum 10 = .ok (.getfield 39, 3) := by decide +kernel
theorem dX1_greatestSum_13 : decode cX1_greatestSum 13 = .ok (.getfield 94, 3) := by decide +kernel
theorem dX1_greatestSum_16 : decode cX1_greatestSum 16 = .ok (.if_icmp .ge 21, 3) := by decide +kernel
theorem dX1_greatestSum_19 : decode cX1_greatestSum 19 = .ok (.iload_n 2, 1) := by decide +kernel
theorem dX1_greatestSum_20 : decode cX1_greatestSum 20 = .ok (.aload_n 0, 1) := by decide +kernel
theorem dX1_greatestSum_21 : decode cX1_greatestSum 21 = .ok (.getfield 39, 3) := by decide +kernel
theorem dX1_greatestSum_24 : decode cX1_greatestSum 24 = .ok (.getfield 60, 3) := by decide +kernel
theorem dX1_greatestSum_27 : decode cX1_greatestSum 27 = .ok (.iload_n 3, 1) := by decide +kernel
theorem dX1_greatestSum_28 : decode cX1_greatestSum 28 = .ok (.iaload, 1) := by decide +kernel
theorem dX1_greatestSum_29 : decode cX1_greatestSum 29 = .ok (.iadd, 1) := by decide +kernel
theorem dX1_greatestSum_30 : decode cX1_greatestSum 30 = .ok (.istore_n 2, 1) := by decide +kernel
theorem dX1_greatestSum_31 : decode cX1_greatestSum 31 = .ok (.iinc 3 1, 3) := by decide +kernel
theorem dX1_greatestSum_34 : decode cX1_greatestSum 34 = .ok (.goto (-26), 3) := by decide +kernel
theorem dX1_greatestSum_37 : decode cX1_greatestSum 37 = .ok (.iconst (-1), 1) := by decide +kernel
theorem dX1_greatestSum_38 : decode cX1_greatestSum 38 = .ok (.istore_n 3, 1) := by decide +kernel
theorem dX1_greatestSum_39 : decode cX1_greatestSum 39 = .ok (.iconst 0, 1) := by decide +kernel
theorem dX1_greatestSum_40 : decode cX1_greatestSum 40 = .ok (.istore 4, 2) := by decide +kernel
theorem dX1_greatestSum_42 : decode cX1_greatestSum 42 = .ok (.iload 4, 2) := by decide +kernel
theorem dX1_greatestSum_44 : decode cX1_greatestSum 44 = .ok (.aload_n 0, 1) := by decide +kernel
theorem dX1_greatestSum_45 : decode cX1_greatestSum 45 = .ok (.getfield 39, 3) := by decide +kernel
theorem dX1_greatestSum_48 : decode cX1_greatestSum 48 = .ok (.getfield 78, 3) := by decide +kernel
theorem dX1_greatestSum_51 : decode cX1_greatestSum 51 = .ok (.if_icmp .ge 49, 3) := by decide +kernel
theorem dX1_greatestSum_54 : decode cX1_greatestSum 54 = .ok (.aload_n 0, 1) := by decide +kernel
theorem dX1_greatestSum_55 : decode cX1_greatestSum 55 = .ok (.iload 4, 2) := by decide +kernel
theorem dX1_greatestSum_57 : decode cX1_greatestSum 57 = .ok (.iload_n 3, 1) := by decide +kernel
theorem dX1_greatestSum_58 : decode cX1_greatestSum 58 = .ok (.invokevirtual 97, 3) := by decide +kernel
theorem dX1_greatestSum_61 : decode cX1_greatestSum 61 = .ok (.istore 5, 2) := by decide +kernel
theorem dX1_greatestSum_63 : decode cX1_greatestSum 63 = .ok (.iload 4, 2) := by decide +kernel
theorem dX1_greatestSum_65 : decode cX1_greatestSum 65 = .ok (.iload_n 1, 1) := by decide +kernel
theorem dX1_greatestSum_66 : decode cX1_greatestSum 66 = .ok (.if_icmp .ne 13, 3) := by decide +kernel
theorem dX1_greatestSum_69 : decode cX1_greatestSum 69 = .ok (.aload_n 0, 1) := by decide +kernel
theorem dX1_greatestSum_70 : decode cX1_greatestSum 70 = .ok (.getfield 39, 3) := by decide +kernel
theorem dX1_greatestSum_73 : decode cX1_greatestSum 73 = .ok (.iload 5, 2) := by decide +kernel
theorem dX1_greatestSum_75 : decode cX1_greatestSum 75 = .ok (.invokevirtual 101, 3) := by decide +kernel
theorem dX1_greatestSum_78 : decode cX1_greatestSum 78 = .ok (.ireturn, 1) := by decide +kernel
theorem dX1_greatestSum_79 : decode cX1_greatestSum 79 = .ok (.iload_n 2, 1) := by decide +kernel
theorem dX1_greatestSum_80 : decode cX1_greatestSum 80 = .ok (.aload_n 0, 1) := by decide +kernel
theorem dX1_greatestSum_81 : decode cX1_greatestSum 81 = .ok (.iload 4, 2) := by decide +kernel
theorem dX1_greatestSum_83 : decode cX1_greatestSum 83 = .ok (.iload_n 3, 1) := by decide +kernel
theorem dX1_greatestSum_84 : decode cX1_greatestSum 84 = .ok (.iload 5, 2) := by decide +kernel
theorem dX1_greatestSum_86 : decode cX1_greatestSum 86 = .ok (.invokevirtual 105, 3) := by decide +kernel
theorem dX1_greatestSum_89 : decode cX1_greatestSum 89 = .ok (.iadd, 1) := by decide +kernel
theorem dX1_greatestSum_90 : decode cX1_greatestSum 90 = .ok (.istore_n 2, 1) := by decide +kernel
theorem dX1_greatestSum_91 : decode cX1_greatestSum 91 = .ok (.iload 5, 2) := by decide +kernel
theorem dX1_greatestSum_93 : decode cX1_greatestSum 93 = .ok (.istore_n 3, 1) := by decide +kernel
theorem dX1_greatestSum_94 : decode cX1_greatestSum 94 = .ok (.iinc 4 1, 3) := by decide +kernel
theorem dX1_greatestSum_97 : decode cX1_greatestSum 97 = .ok (.goto (-55), 3) := by decide +kernel
theorem dX1_greatestSum_100 : decode cX1_greatestSum 100 = .ok (.iload_n 2, 1) := by decide +kernel
theorem dX1_greatestSum_101 : decode cX1_greatestSum 101 = .ok (.ireturn, 1) := by decide +kernel
theorem dX1_prepare_0 : decode cX1_prepare 0 = .ok (.aload_n 0, 1) := by decide +kernel
theorem dX1_prepare_1 : decode cX1_prepare 1 = .ok (.getfield 43, 3) := by decide +kernel
theorem dX1_prepare_4 : decode cX1_prepare 4 = .ok (.ifCond .eq 4, 3) := by decide +kernel
theorem dX1_prepare_7 : decode cX1_prepare 7 = .ok (.return_, 1) := by decide +kernel
theorem dX1_prepare_8 : decode cX1_prepare 8 = .ok (.aload_n 0, 1) := by decide +kernel
theorem dX1_prepare_9 : decode cX1_prepare 9 = .ok (.iconst 1, 1) := by decide +kernel
theorem dX1_prepare_10 : decode cX1_prepare 10 = .ok (.putfield 43, 3) := by decide +kernel
theorem dX1_prepare_13 : decode cX1_prepare 13 = .ok (.iconst 0, 1) := by decide +kernel
theorem dX1_prepare_14 : decode cX1_prepare 14 = .ok (.istore_n 1, 1) := by decide +kernel
theorem dX1_prepare_15 : decode cX1_prepare 15 = .ok (.iload_n 1, 1) := by decide +kernel
theorem dX1_prepare_16 : decode cX1_prepare 16 = .ok (.aload_n 0, 1) := by decide +kernel
theorem dX1_prepare_17 : decode cX1_prepare 17 = .ok (.getfield 39, 3) := by decide +kernel
theorem dX1_prepare_20 : decode cX1_prepare 20 = .ok (.getfield 109, 3) := by decide +kernel
theorem dX1_prepare_23 : decode cX1_prepare 23 = .ok (.if_icmp .ge 37, 3) := by decide +kernel
theorem dX1_prepare_26 : decode cX1_prepare 26 = .ok (.aload_n 0, 1) := by decide +kernel
theorem dX1_prepare_27 : decode cX1_prepare 27 = .ok (.getfield 39, 3) := by decide +kernel
theorem dX1_prepare_30 : decode cX1_prepare 30 = .ok (.aload_n 0, 1) := by decide +kernel
theorem dX1_prepare_31 : decode cX1_prepare 31 = .ok (.getfield 39, 3) := by decide +kernel
theorem dX1_prepare_34 : decode cX1_prepare 34 = .ok (.getfield 112, 3) := by decide +kernel
theorem dX1_prepare_37 : decode cX1_prepare 37 = .ok (.iload_n 1, 1) := by decide +kernel
theorem dX1_prepare_38 : decode cX1_prepare 38 = .ok (.iaload, 1) := by decide +kernel
theorem dX1_prepare_39 : decode cX1_prepare 39 = .ok (.aload_n 0, 1) := by decide +kernel
theorem dX1_prepare_40 : decode cX1_prepare 40 = .ok (.getfield 9, 3) := by decide +kernel
theorem dX1_prepare_43 : decode cX1_prepare 43 = .ok (.invokevirtual 115, 3) := by decide +kernel
theorem dX1_prepare_46 : decode cX1_prepare 46 = .ok (.ifCond .eq 8, 3) := by decide +kernel
theorem dX1_prepare_49 : decode cX1_prepare 49 = .ok (.aload_n 0, 1) := by decide +kernel
theorem dX1_prepare_50 : decode cX1_prepare 50 = .ok (.iload_n 1, 1) := by decide +kernel
theorem dX1_prepare_51 : decode cX1_prepare 51 = .ok (.invokevirtual 119, 3) := by decide +kernel
theorem dX1_prepare_54 : decode cX1_prepare 54 = .ok (.iinc 1 1, 3) := by decide +kernel
theorem dX1_prepare_57 : decode cX1_prepare 57 = .ok (.goto (-42), 3) := by decide +kernel
theorem dX1_prepare_60 : decode cX1_prepare 60 = .ok (.aload_n 0, 1) := by decide +kernel
theorem dX1_prepare_61 : decode cX1_prepare 61 = .ok (.getfield 39, 3) := by decide +kernel
theorem dX1_prepare_64 : decode cX1_prepare 64 = .ok (.getfield 78, 3) := by decide +kernel
theorem dX1_prepare_67 : decode cX1_prepare 67 = .ok (.iconst 1, 1) := by decide +kernel
theorem dX1_prepare_68 : decode cX1_prepare 68 = .ok (.isub, 1) := by decide +kernel
theorem dX1_prepare_69 : decode cX1_prepare 69 = .ok (.istore_n 1, 1) := by decide +kernel
theorem dX1_prepare_70 : decode cX1_prepare 70 = .ok (.iload_n 1, 1) := by decide +kernel
theorem dX1_prepare_71 : decode cX1_prepare 71 = .ok (.ifCond .lt 34, 3) := by decide +kernel
theorem dX1_prepare_74 : decode cX1_prepare 74 = .ok (.iconst 0, 1) := by decide +kernel
theorem dX1_prepare_75 : decode cX1_prepare 75 = .ok (.istore_n 2, 1) := by decide +kernel
theorem dX1_prepare_76 : decode cX1_prepare 76 = .ok (.iload_n 2, 1) := by decide +kernel
theorem dX1_prepare_77 : decode cX1_prepare 77 = .ok (.aload_n 0, 1) := by decide +kernel
theorem dX1_prepare_78 : decode cX1_prepare 78 = .ok (.getfield 39, 3) := by decide +kernel
theorem dX1_prepare_81 : decode cX1_prepare 81 = .ok (.getfield 109, 3) := by decide +kernel
theorem dX1_prepare_84 : decode cX1_prepare 84 = .ok (.if_icmp .ge 15, 3) := by decide +kernel
theorem dX1_prepare_87 : decode cX1_prepare 87 = .ok (.aload_n 0, 1) := by decide +kernel
theorem dX1_prepare_88 : decode cX1_prepare 88 = .ok (.iload_n 1, 1) := by decide +kernel
theorem dX1_prepare_89 : decode cX1_prepare 89 = .ok (.iload_n 2, 1) := by decide +kernel
theorem dX1_prepare_90 : decode cX1_prepare 90 = .ok (.invokevirtual 122, 3) := by decide +kernel
theorem dX1_prepare_93 : decode cX1_prepare 93 = .ok (.iinc 2 1, 3) := by decide +kernel
theorem dX1_prepare_96 : decode cX1_prepare 96 = .ok (.goto (-20), 3) := by decide +kernel
theorem dX1_prepare_99 : decode cX1_prepare 99 = .ok (.iinc 1 (-1), 3) := by decide +kernel
theorem dX1_prepare_102 : decode cX1_prepare 102 = .ok (.goto (-32), 3) := by decide +kernel
theorem dX1_prepare_105 : decode cX1_prepare 105 = .ok (.return_, 1) := by decide +kernel
theorem dX1_fillGains_0 : decode cX1_fillGains 0 = .ok (.iconst 0, 1) := by decide +kernel
theorem dX1_fillGains_1 : decode cX1_fillGains 1 = .ok (.istore_n 2, 1) := by decide +kernel
theorem dX1_fillGains_2 : decode cX1_fillGains 2 = .ok (.iload_n 2, 1) := by decide +kernel
theorem dX1_fillGains_3 : decode cX1_fillGains 3 = .ok (.aload_n 0, 1) := by decide +kernel
theorem dX1_fillGains_4 : decode cX1_fillGains 4 = .ok (.getfield 39, 3) := by decide +kernel
theorem dX1_fillGains_7 : decode cX1_fillGains 7 = .ok (.getfield 78, 3) := by decide +kernel
theorem dX1_fillGains_10 : decode cX1_fillGains 10 = .ok (.if_icmp .ge 56, 3) := by decide +kernel
theorem dX1_fillGains_13 : decode cX1_fillGains 13 = .ok (.iconst 0, 1) := by decide +kernel
theorem dX1_fillGains_14 : decode cX1_fillGains 14 = .ok (.istore_n 3, 1) := by decide +kernel
theorem dX1_fillGains_15 : decode cX1_fillGains 15 = .ok (.iload_n 3, 1) := by decide +kernel
theorem dX1_fillGains_16 : decode cX1_fillGains 16 = .ok (.aload_n 0, 1) := by decide +kernel
theorem dX1_fillGains_17 : decode cX1_fillGains 17 = .ok (.getfield 39, 3) := by decide +kernel
theorem dX1_fillGains_20 : decode cX1_fillGains 20 = .ok (.getfield 94, 3) := by decide +kernel
theorem dX1_fillGains_23 : decode cX1_fillGains 23 = .ok (.if_icmp .ge 37, 3) := by decide +kernel
theorem dX1_fillGains_26 : decode cX1_fillGains 26 = .ok (.aload_n 0, 1) := by decide +kernel
theorem dX1_fillGains_27 : decode cX1_fillGains 27 = .ok (.getfield 15, 3) := by decide +kernel
theorem dX1_fillGains_30 : decode cX1_fillGains 30 = .ok (.iload_n 2, 1) := by decide +kernel
theorem dX1_fillGains_31 : decode cX1_fillGains 31 = .ok (.bipush 24, 2) := by decide +kernel
theorem dX1_fillGains_33 : decode cX1_fillGains 33 = .ok (.imul, 1) := by decide +kernel
theorem dX1_fillGains_34 : decode cX1_fillGains 34 = .ok (.iload_n 1, 1) := by decide +kernel
theorem dX1_fillGains_35 : decode cX1_fillGains 35 = .ok (.iadd, 1) := by decide +kernel
theorem dX1_fillGains_36 : decode cX1_fillGains 36 = .ok (.iconst 4, 1) := by decide +kernel
theorem dX1_fillGains_37 : decode cX1_fillGains 37 = .ok (.imul, 1) := by decide +kernel
theorem dX1_fillGains_38 : decode cX1_fillGains 38 = .ok (.iload_n 3, 1) := by decide +kernel
theorem dX1_fillGains_39 : decode cX1_fillGains 39 = .ok (.iadd, 1) := by decide +kernel
theorem dX1_fillGains_40 : decode cX1_fillGains 40 = .ok (.aload_n 0, 1) := by decide +kernel
theorem dX1_fillGains_41 : decode cX1_fillGains 41 = .ok (.getfield 39, 3) := by decide +kernel
theorem dX1_fillGains_44 : decode cX1_fillGains 44 = .ok (.aload_n 0, 1) := by decide +kernel
theorem dX1_fillGains_45 : decode cX1_fillGains 45 = .ok (.getfield 9, 3) := by decide +kernel
theorem dX1_fillGains_48 : decode cX1_fillGains 48 = .ok (.iload_n 3, 1) := by decide +kernel
theorem dX1_fillGains_49 : decode cX1_fillGains 49 = .ok (.iload_n 2, 1) := by decide +kernel
theorem dX1_fillGains_50 : decode cX1_fillGains 50 = .ok (.invokevirtual 126, 3) := by decide +kernel
theorem dX1_fillGains_53 : decode cX1_fillGains 53 = .ok (.iastore, 1) := by decide +kernel
theorem dX1_fillGains_54 : decode cX1_fillGains 54 = .ok (.iinc 3 1, 3) := by decide +kernel
theorem dX1_fillGains_57 : decode cX1_fillGains 57 = .ok (.goto (-42), 3) := by decide +kernel
theorem dX1_fillGains_60 : decode cX1_fillGains 60 = .ok (.iinc 2 1, 3) := by decide +kernel
theorem dX1_fillGains_63 : decode cX1_fillGains 63 = .ok (.goto (-61), 3) := by decide +kernel
theorem dX1_fillGains_66 : decode cX1_fillGains 66 = .ok (.return_, 1) := by decide +kernel
theorem dX1_fillLeast_0 : decode cX1_fillLeast 0 = .ok (.iconst 0, 1) := by decide +kernel
theorem dX1_fillLeast_1 : decode cX1_fillLeast 1 = .ok (.istore_n 3, 1) := by decide +kernel
theorem dX1_fillLeast_2 : decode cX1_fillLeast 2 = .ok (.iload_n 3, 1) := by decide +kernel
theorem dX1_fillLeast_3 : decode cX1_fillLeast 3 = .ok (.iconst 4, 1) := by decide +kernel
theorem dX1_fillLeast_4 : decode cX1_fillLeast 4 = .ok (.if_icmp .gt 86, 3) := by decide +kernel
theorem dX1_fillLeast_7 : decode cX1_fillLeast 7 = .ok (.iconst 0, 1) := by decide +kernel
theorem dX1_fillLeast_8 : decode cX1_fillLeast 8 = .ok (.istore 4, 2) := by decide +kernel
theorem dX1_fillLeast_10 : decode cX1_fillLeast 10 = .ok (.iload 4, 2) := by decide +kernel
theorem dX1_fillLeast_12 : decode cX1_fillLeast 12 = .ok (.aload_n 0, 1) := by decide +kernel
theorem dX1_fillLeast_13 : decode cX1_fillLeast 13 = .ok (.getfield 39, 3) := by decide +kernel
theorem dX1_fillLeast_16 : decode cX1_fillLeast 16 = .ok (.getfield 94, 3) := by decide +kernel
theorem dX1_fillLeast_19 : decode cX1_fillLeast 19 = .ok (.if_icmp .ge 65, 3) := by decide +kernel
theorem dX1_fillLeast_22 : decode cX1_fillLeast 22 = .ok (.iload_n 3, 1) := by decide +kernel
theorem dX1_fillLeast_23 : decode cX1_fillLeast 23 = .ok (.aload_n 0, 1) := by decide +kernel
theorem dX1_fillLeast_24 : decode cX1_fillLeast 24 = .ok (.getfield 39, 3) := by decide +kernel
theorem dX1_fillLeast_27 : decode cX1_fillLeast 27 = .ok (.getfield 94, 3) := by decide +kernel
theorem dX1_fillLeast_30 : decode cX1_fillLeast 30 = .ok (.if_icmp .lt 8, 3) := by decide +kernel
theorem dX1_fillLeast_33 : decode cX1_fillLeast 33 = .ok (.iload_n 3, 1) := by decide +kernel
theorem dX1_fillLeast_34 : decode cX1_fillLeast 34 = .ok (.iconst 4, 1) := by decide +kernel
theorem dX1_fillLeast_35 : decode cX1_fillLeast 35 = .ok (.if_icmp .ne 7, 3) := by decide +kernel
theorem dX1_fillLeast_38 : decode cX1_fillLeast 38 = .ok (.iconst 1, 1) := by decide +kernel
theorem dX1_fillLeast_39 : decode cX1_fillLeast 39 = .ok (.goto 4, 3) := by decide +kernel
theorem dX1_fillLeast_42 : decode cX1_fillLeast 42 = .ok (.iconst 0, 1) := by decide +kernel
theorem dX1_fillLeast_43 : decode cX1_fillLeast 43 = .ok (.istore 5, 2) := by decide +kernel
theorem dX1_fillLeast_45 : decode cX1_fillLeast 45 = .ok (.iload 5, 2) := by decide +kernel
theorem dX1_fillLeast_47 : decode cX1_fillLeast 47 = .ok (.ifCond .eq 31, 3) := by decide +kernel
theorem dX1_fillLeast_50 : decode cX1_fillLeast 50 = .ok (.iload_n 3, 1) := by decide +kernel
theorem dX1_fillLeast_51 : decode cX1_fillLeast 51 = .ok (.iload 4, 2) := by decide +kernel
theorem dX1_fillLeast_53 : decode cX1_fillLeast 53 = .ok (.if_icmp .eq 25, 3) := by decide +kernel
theorem dX1_fillLeast_56 : decode cX1_fillLeast 56 = .ok (.aload_n 0, 1) := by decide +kernel
theorem dX1_fillLeast_57 : decode cX1_fillLeast 57 = .ok (.getfield 18, 3) := by decide +kernel
theorem dX1_fillLeast_60 : decode cX1_fillLeast 60 = .ok (.iload_n 1, 1) := by decide +kernel
theorem dX1_fillLeast_61 : decode cX1_fillLeast 61 = .ok (.iload_n 2, 1) := by decide +kernel
theorem dX1_fillLeast_62 : decode cX1_fillLeast 62 = .ok (.iload_n 3, 1) := by decide +kernel
theorem dX1_fillLeast_63 : decode cX1_fillLeast 63 = .ok (.iload 4, 2) := by decide +kernel
theorem dX1_fillLeast_65 : decode cX1_fillLeast 65 = .ok (.invokestatic 130, 3) := by decide +kernel
theorem dX1_fillLeast_68 : decode cX1_fillLeast 68 = .ok (.aload_n 0, 1) := by decide +kernel
theorem dX1_fillLeast_69 : decode cX1_fillLeast 69 = .ok (.iload_n 1, 1) := by decide +kernel
theorem dX1_fillLeast_70 : decode cX1_fillLeast 70 = .ok (.iload_n 2, 1) := by decide +kernel
theorem dX1_fillLeast_71 : decode cX1_fillLeast 71 = .ok (.iload_n 3, 1) := by decide +kernel
theorem dX1_fillLeast_72 : decode cX1_fillLeast 72 = .ok (.iload 4, 2) := by decide +kernel
theorem dX1_fillLeast_74 : decode cX1_fillLeast 74 = .ok (.invokevirtual 134, 3) := by decide +kernel
theorem dX1_fillLeast_77 : decode cX1_fillLeast 77 = .ok (.iastore, 1) := by decide +kernel
theorem dX1_fillLeast_78 : decode cX1_fillLeast 78 = .ok (.iinc 4 1, 3) := by decide +kernel
theorem dX1_fillLeast_81 : decode cX1_fillLeast 81 = .ok (.goto (-71), 3) := by decide +kernel
theorem dX1_fillLeast_84 : decode cX1_fillLeast 84 = .ok (.iinc 3 1, 3) := by decide +kernel
theorem dX1_fillLeast_87 : decode cX1_fillLeast 87 = .ok (.goto (-85), 3) := by decide +kernel
theorem dX1_fillLeast_90 : decode cX1_fillLeast 90 = .ok (.return_, 1) := by decide +kernel
theorem dX1_leastAhead_0 : decode cX1_leastAhead 0 = .ok (.iload_n 1, 1) := by decide +kernel
theorem dX1_leastAhead_1 : decode cX1_leastAhead 1 = .ok (.iconst 1, 1) := by decide +kernel
theorem dX1_leastAhead_2 : decode cX1_leastAhead 2 = .ok (.iadd, 1) := by decide +kernel
theorem dX1_leastAhead_3 : decode cX1_leastAhead 3 = .ok (.aload_n 0, 1) := by decide +kernel
theorem dX1_leastAhead_4 : decode cX1_leastAhead 4 = .ok (.getfield 39, 3) := by decide +kernel
theorem dX1_leastAhead_7 : decode cX1_leastAhead 7 = .ok (.getfield 78, 3) := by decide +kernel
theorem dX1_leastAhead_10 : decode cX1_leastAhead 10 = .ok (.if_icmp .lt 5, 3) := by decide +kernel
theorem dX1_leastAhead_13 : decode cX1_leastAhead 13 = .ok (.iconst 0, 1) := by decide +kernel
theorem dX1_leastAhead_14 : decode cX1_leastAhead 14 = .ok (.ireturn, 1) := by decide +kernel
theorem dX1_leastAhead_15 : decode cX1_leastAhead 15 = .ok (.ldc 137, 2) := by decide +kernel
theorem dX1_leastAhead_17 : decode cX1_leastAhead 17 = .ok (.istore 5, 2) := by decide +kernel
theorem dX1_leastAhead_19 : decode cX1_leastAhead 19 = .ok (.iconst 0, 1) := by decide +kernel
theorem dX1_leastAhead_20 : decode cX1_leastAhead 20 = .ok (.istore 6, 2) := by decide +kernel
theorem dX1_leastAhead_22 : decode cX1_leastAhead 22 = .ok (.iload 6, 2) := by decide +kernel
theorem dX1_leastAhead_24 : decode cX1_leastAhead 24 = .ok (.aload_n 0, 1) := by decide +kernel
theorem dX1_leastAhead_25 : decode cX1_leastAhead 25 = .ok (.getfield 39, 3) := by decide +kernel
theorem dX1_leastAhead_28 : decode cX1_leastAhead 28 = .ok (.getfield 109, 3) := by decide +kernel
theorem dX1_leastAhead_31 : decode cX1_leastAhead 31 = .ok (.if_icmp .ge 61, 3) := by decide +kernel
theorem dX1_leastAhead_34 : decode cX1_leastAhead 34 = .ok (.aload_n 0, 1) := by decide +kernel
theorem dX1_leastAhead_35 : decode cX1_leastAhead 35 = .ok (.iload_n 1, 1) := by decide +kernel
theorem dX1_leastAhead_36 : decode cX1_leastAhead 36 = .ok (.iconst 1, 1) := by decide +kernel
theorem dX1_leastAhead_37 : decode cX1_leastAhead 37 = .ok (.iadd, 1) := by decide +kernel
theorem dX1_leastAhead_38 : decode cX1_leastAhead 38 = .ok (.iload_n 2, 1) := by decide +kernel
theorem dX1_leastAhead_39 : decode cX1_leastAhead 39 = .ok (.iload 6, 2) := by decide +kernel
theorem dX1_leastAhead_41 : decode cX1_leastAhead 41 = .ok (.iload_n 3, 1) := by decide +kernel
theorem dX1_leastAhead_42 : decode cX1_leastAhead 42 = .ok (.invokevirtual 138, 3) := by decide +kernel
theorem dX1_leastAhead_45 : decode cX1_leastAhead 45 = .ok (.aload_n 0, 1) := by decide +kernel
theorem dX1_leastAhead_46 : decode cX1_leastAhead 46 = .ok (.iload_n 1, 1) := by decide +kernel
theorem dX1_leastAhead_47 : decode cX1_leastAhead 47 = .ok (.iconst 1, 1) := by decide +kernel
theorem dX1_leastAhead_48 : decode cX1_leastAhead 48 = .ok (.iadd, 1) := by decide +kernel
theorem dX1_leastAhead_49 : decode cX1_leastAhead 49 = .ok (.iload_n 2, 1) := by decide +kernel
theorem dX1_leastAhead_50 : decode cX1_leastAhead 50 = .ok (.iload 6, 2) := by decide +kernel
theorem dX1_leastAhead_52 : decode cX1_leastAhead 52 = .ok (.iload 4, 2) := by decide +kernel
theorem dX1_leastAhead_54 : decode cX1_leastAhead 54 = .ok (.invokevirtual 138, 3) := by decide +kernel
theorem dX1_leastAhead_57 : decode cX1_leastAhead 57 = .ok (.isub, 1) := by decide +kernel
theorem dX1_leastAhead_58 : decode cX1_leastAhead 58 = .ok (.istore 7, 2) := by decide +kernel
theorem dX1_leastAhead_60 : decode cX1_leastAhead 60 = .ok (.iload 5, 2) := by decide +kernel
theorem dX1_leastAhead_62 : decode cX1_leastAhead 62 = .ok (.iload 7, 2) := by decide +kernel
theorem dX1_leastAhead_64 : decode cX1_leastAhead 64 = .ok (.aload_n 0, 1) := by decide +kernel
theorem dX1_leastAhead_65 : decode cX1_leastAhead 65 = .ok (.getfield 18, 3) := by decide +kernel
theorem dX1_leastAhead_68 : decode cX1_leastAhead 68 = .ok (.iload_n 1, 1) := by decide +kernel
theorem dX1_leastAhead_69 : decode cX1_leastAhead 69 = .ok (.iconst 1, 1) := by decide +kernel
theorem dX1_leastAhead_70 : decode cX1_leastAhead 70 = .ok (.iadd, 1) := by decide +kernel
theorem dX1_leastAhead_71 : decode cX1_leastAhead 71 = .ok (.iload 6, 2) := by decide +kernel
theorem dX1_leastAhead_73 : decode cX1_leastAhead 73 = .ok (.iload_n 3, 1) := by decide +kernel
theorem dX1_leastAhead_74 : decode cX1_leastAhead 74 = .ok (.iload 4, 2) := by decide +kernel
theorem dX1_leastAhead_76 : decode cX1_leastAhead 76 = .ok (.invokestatic 130, 3) := by decide +kernel
theorem dX1_leastAhead_79 : decode cX1_leastAhead 79 = .ok (.iaload, 1) := by decide +kernel
theorem dX1_leastAhead_80 : decode cX1_leastAhead 80 = .ok (.iadd, 1) := by decide +kernel
theorem dX1_leastAhead_81 : decode cX1_leastAhead 81 = .ok (.invokestatic 141, 3) := by decide +kernel
theorem dX1_leastAhead_84 : decode cX1_leastAhead 84 = .ok (.istore 5, 2) := by decide +kernel
theorem dX1_leastAhead_86 : decode cX1_leastAhead 86 = .ok (.iinc 6 1, 3) := by decide +kernel
theorem dX1_leastAhead_89 : decode cX1_leastAhead 89 = .ok (.goto (-67), 3) := by decide +kernel
theorem dX1_leastAhead_92 : decode cX1_leastAhead 92 = .ok (.iload 5, 2) := by decide +kernel
theorem dX1_leastAhead_94 : decode cX1_leastAhead 94 = .ok (.ireturn, 1) := by decide +kernel
theorem dX1_leastPlace_0 : decode cX1_leastPlace 0 = .ok (.iload_n 2, 1) := by decide +kernel
theorem dX1_leastPlace_1 : decode cX1_leastPlace 1 = .ok (.iconst 4, 1) := by decide +kernel
theorem dX1_leastPlace_2 : decode cX1_leastPlace 2 = .ok (.imul, 1) := by decide +kernel
theorem dX1_leastPlace_3 : decode cX1_leastPlace 3 = .ok (.iload_n 3, 1) := by decide +kernel
theorem dX1_leastPlace_4 : decode cX1_leastPlace 4 = .ok (.iadd, 1) := by decide +kernel
theorem dX1_leastPlace_5 : decode cX1_leastPlace 5 = .ok (.iconst 4, 1) := by decide +kernel
theorem dX1_leastPlace_6 : decode cX1_leastPlace 6 = .ok (.imul, 1) := by decide +kernel
theorem dX1_leastPlace_7 : decode cX1_leastPlace 7 = .ok (.iload_n 0, 1) := by decide +kernel
theorem dX1_leastPlace_8 : decode cX1_leastPlace 8 = .ok (.iadd, 1) := by decide +kernel
theorem dX1_leastPlace_9 : decode cX1_leastPlace 9 = .ok (.bipush 24, 2) := by decide +kernel
theorem dX1_leastPlace_11 : decode cX1_leastPlace 11 = .ok (.imul, 1) := by decide +kernel
theorem dX1_leastPlace_12 : decode cX1_leastPlace 12 = .ok (.iload_n 1, 1) := by decide +kernel
theorem dX1_leastPlace_13 : decode cX1_leastPlace 13 = .ok (.iadd, 1) := by decide +kernel
theorem dX1_leastPlace_14 : decode cX1_leastPlace 14 = .ok (.ireturn, 1) := by decide +kernel
theorem dX1_gainOf_0 : decode cX1_gainOf 0 = .ok (.iload 4, 2) := by decide +kernel
theorem dX1_gainOf_2 : decode cX1_gainOf 2 = .ok (.iconst 4, 1) := by decide +kernel
theorem dX1_gainOf_3 : decode cX1_gainOf 3 = .ok (.if_icmp .ne 5, 3) := by decide +kernel
theorem dX1_gainOf_6 : decode cX1_gainOf 6 = .ok (.iconst 0, 1) := by decide +kernel
theorem dX1_gainOf_7 : decode cX1_gainOf 7 = .ok (.ireturn, 1) := by decide +kernel
theorem dX1_gainOf_8 : decode cX1_gainOf 8 = .ok (.aload_n 0, 1) := by decide +kernel
theorem dX1_gainOf_9 : decode cX1_gainOf 9 = .ok (.getfield 15, 3) := by decide +kernel
theorem dX1_gainOf_12 : decode cX1_gainOf 12 = .ok (.iload_n 1, 1) := by decide +kernel
theorem dX1_gainOf_13 : decode cX1_gainOf 13 = .ok (.bipush 24, 2) := by decide +kernel
theorem dX1_gainOf_15 : decode cX1_gainOf 15 = .ok (.imul, 1) := by decide +kernel
theorem dX1_gainOf_16 : decode cX1_gainOf 16 = .ok (.iload_n 3, 1) := by decide +kernel
theorem dX1_gainOf_17 : decode cX1_gainOf 17 = .ok (.iadd, 1) := by decide +kernel
theorem dX1_gainOf_18 : decode cX1_gainOf 18 = .ok (.iconst 4, 1) := by decide +kernel
theorem dX1_gainOf_19 : decode cX1_gainOf 19 = .ok (.imul, 1) := by decide +kernel
theorem dX1_gainOf_20 : decode cX1_gainOf 20 = .ok (.iload 4, 2) := by decide +kernel
theorem dX1_gainOf_22 : decode cX1_gainOf 22 = .ok (.iadd, 1) := by decide +kernel
theorem dX1_gainOf_23 : decode cX1_gainOf 23 = .ok (.iaload, 1) := by decide +kernel
theorem dX1_gainOf_24 : decode cX1_gainOf 24 = .ok (.istore 5, 2) := by decide +kernel
theorem dX1_gainOf_26 : decode cX1_gainOf 26 = .ok (.iload_n 2, 1) := by decide +kernel
theorem dX1_gainOf_27 : decode cX1_gainOf 27 = .ok (.iconst (-1), 1) := by decide +kernel
theorem dX1_gainOf_28 : decode cX1_gainOf 28 = .ok (.if_icmp .ne 6, 3) := by decide +kernel
theorem dX1_gainOf_31 : decode cX1_gainOf 31 = .ok (.iload 5, 2) := by decide +kernel
theorem dX1_gainOf_33 : decode cX1_gainOf 33 = .ok (.ireturn, 1) := by decide +kernel
theorem dX1_gainOf_34 : decode cX1_gainOf 34 = .ok (.aload_n 0, 1) := by decide +kernel
theorem dX1_gainOf_35 : decode cX1_gainOf 35 = .ok (.getfield 39, 3) := by decide +kernel
theorem dX1_gainOf_38 : decode cX1_gainOf 38 = .ok (.getfield 112, 3) := by decide +kernel
theorem dX1_gainOf_41 : decode cX1_gainOf 41 = .ok (.iload_n 2, 1) := by decide +kernel
theorem dX1_gainOf_42 : decode cX1_gainOf 42 = .ok (.iaload, 1) := by decide +kernel
theorem dX1_gainOf_43 : decode cX1_gainOf 43 = .ok (.aload_n 0, 1) := by decide +kernel
theorem dX1_gainOf_44 : decode cX1_gainOf 44 = .ok (.getfield 39, 3) := by decide +kernel
theorem dX1_gainOf_47 : decode cX1_gainOf 47 = .ok (.getfield 112, 3) := by decide +kernel
theorem dX1_gainOf_50 : decode cX1_gainOf 50 = .ok (.iload_n 3, 1) := by decide +kernel
theorem dX1_gainOf_51 : decode cX1_gainOf 51 = .ok (.iaload, 1) := by decide +kernel
theorem dX1_gainOf_52 : decode cX1_gainOf 52 = .ok (.ixor, 1) := by decide +kernel
theorem dX1_gainOf_53 : decode cX1_gainOf 53 = .ok (.iconst 2, 1) := by decide +kernel
theorem dX1_gainOf_54 : decode cX1_gainOf 54 = .ok (.aload_n 0, 1) := by decide +kernel
theorem dX1_gainOf_55 : decode cX1_gainOf 55 = .ok (.getfield 39, 3) := by decide +kernel
theorem dX1_gainOf_58 : decode cX1_gainOf 58 = .ok (.getfield 94, 3) := by decide +kernel
theorem dX1_gainOf_61 : decode cX1_gainOf 61 = .ok (.iconst 1, 1) := by decide +kernel
theorem dX1_gainOf_62 : decode cX1_gainOf 62 = .ok (.isub, 1) := by decide +kernel
theorem dX1_gainOf_63 : decode cX1_gainOf 63 = .ok (.iload 4, 2) := by decide +kernel
theorem dX1_gainOf_65 : decode cX1_gainOf 65 = .ok (.isub, 1) := by decide +kernel
theorem dX1_gainOf_66 : decode cX1_gainOf 66 = .ok (.imul, 1) := by decide +kernel
theorem dX1_gainOf_67 : decode cX1_gainOf 67 = .ok (.ishr, 1) := by decide +kernel
theorem dX1_gainOf_68 : decode cX1_gainOf 68 = .ok (.iconst 3, 1) := by decide +kernel
theorem dX1_gainOf_69 : decode cX1_gainOf 69 = .ok (.iand, 1) := by decide +kernel
theorem dX1_gainOf_70 : decode cX1_gainOf 70 = .ok (.istore 6, 2) := by decide +kernel
theorem dX1_gainOf_72 : decode cX1_gainOf 72 = .ok (.iload 6, 2) := by decide +kernel
theorem dX1_gainOf_74 : decode cX1_gainOf 74 = .ok (.ifCond .ne 8, 3) := by decide +kernel
theorem dX1_gainOf_77 : decode cX1_gainOf 77 = .ok (.iload 5, 2) := by decide +kernel
theorem dX1_gainOf_79 : decode cX1_gainOf 79 = .ok (.goto 13, 3) := by decide +kernel
theorem dX1_gainOf_82 : decode cX1_gainOf 82 = .ok (.iload 5, 2) := by decide +kernel
theorem dX1_gainOf_84 : decode cX1_gainOf 84 = .ok (.aload_n 0, 1) := by decide +kernel
theorem dX1_gainOf_85 : decode cX1_gainOf 85 = .ok (.getfield 39, 3) := by decide +kernel
theorem dX1_gainOf_88 : decode cX1_gainOf 88 = .ok (.getfield 146, 3) := by decide +kernel
theorem dX1_gainOf_91 : decode cX1_gainOf 91 = .ok (.isub, 1) := by decide +kernel
theorem dX1_gainOf_92 : decode cX1_gainOf 92 = .ok (.ireturn, 1) := by decide +kernel
theorem dX1_movesOf_0 : decode cX1_movesOf 0 = .ok (.iload_n 1, 1) := by decide +kernel
theorem dX1_movesOf_1 : decode cX1_movesOf 1 = .ok (.iconst (-1), 1) := by decide +kernel
theorem dX1_movesOf_2 : decode cX1_movesOf 2 = .ok (.if_icmp .ne 5, 3) := by decide +kernel
theorem dX1_movesOf_5 : decode cX1_movesOf 5 = .ok (.iconst 0, 1) := by decide +kernel
theorem dX1_movesOf_6 : decode cX1_movesOf 6 = .ok (.ireturn, 1) := by decide +kernel
theorem dX1_movesOf_7 : decode cX1_movesOf 7 = .ok (.aload_n 0, 1) := by decide +kernel
theorem dX1_movesOf_8 : decode cX1_movesOf 8 = .ok (.getfield 39, 3) := by decide +kernel
theorem dX1_movesOf_11 : decode cX1_movesOf 11 = .ok (.getfield 112, 3) := by decide +kernel
theorem dX1_movesOf_14 : decode cX1_movesOf 14 = .ok (.iload_n 1, 1) := by decide +kernel
theorem dX1_movesOf_15 : decode cX1_movesOf 15 = .ok (.iaload, 1) := by decide +kernel
theorem dX1_movesOf_16 : decode cX1_movesOf 16 = .ok (.aload_n 0, 1) := by decide +kernel
theorem dX1_movesOf_17 : decode cX1_movesOf 17 = .ok (.getfield 39, 3) := by decide +kernel
theorem dX1_movesOf_20 : decode cX1_movesOf 20 = .ok (.getfield 112, 3) := by decide +kernel
theorem dX1_movesOf_23 : decode cX1_movesOf 23 = .ok (.iload_n 2, 1) := by decide +kernel
theorem dX1_movesOf_24 : decode cX1_movesOf 24 = .ok (.iaload, 1) := by decide +kernel
theorem dX1_movesOf_25 : decode cX1_movesOf 25 = .ok (.ixor, 1) := by decide +kernel
theorem dX1_movesOf_26 : decode cX1_movesOf 26 = .ok (.istore_n 3, 1) := by decide +kernel
theorem dX1_movesOf_27 : decode cX1_movesOf 27 = .ok (.iload_n 3, 1) := by decide +kernel
theorem dX1_movesOf_28 : decode cX1_movesOf 28 = .ok (.iload_n 3, 1) := by decide +kernel
theorem dX1_movesOf_29 : decode cX1_movesOf 29 = .ok (.iconst 1, 1) := by decide +kernel
theorem dX1_movesOf_30 : decode cX1_movesOf 30 = .ok (.ishr, 1) := by decide +kernel
theorem dX1_movesOf_31 : decode cX1_movesOf 31 = .ok (.ior, 1) := by decide +kernel
theorem dX1_movesOf_32 : decode cX1_movesOf 32 = .ok (.bipush 85, 2) := by decide +kernel
theorem dX1_movesOf_34 : decode cX1_movesOf 34 = .ok (.iand, 1) := by decide +kernel
theorem dX1_movesOf_35 : decode cX1_movesOf 35 = .ok (.invokestatic 149, 3) := by decide +kernel
theorem dX1_movesOf_38 : decode cX1_movesOf 38 = .ok (.ireturn, 1) := by decide +kernel
theorem dX1_before_0 : decode cX1_before 0 = .ok (.iload_n 1, 1) := by decide +kernel
theorem dX1_before_1 : decode cX1_before 1 = .ok (.ifCond .le 14, 3) := by decide +kernel
theorem dX1_before_4 : decode cX1_before 4 = .ok (.aload_n 0, 1) := by decide +kernel
theorem dX1_before_5 : decode cX1_before 5 = .ok (.getfield 27, 3) := by decide +kernel
theorem dX1_before_8 : decode cX1_before 8 = .ok (.iload_n 1, 1) := by decide +kernel
theorem dX1_before_9 : decode cX1_before 9 = .ok (.iconst 1, 1) := by decide +kernel
theorem dX1_before_10 : decode cX1_before 10 = .ok (.isub, 1) := by decide +kernel
theorem dX1_before_11 : decode cX1_before 11 = .ok (.iaload, 1) := by decide +kernel
theorem dX1_before_12 : decode cX1_before 12 = .ok (.goto 4, 3) := by decide +kernel
theorem dX1_before_15 : decode cX1_before 15 = .ok (.iconst (-1), 1) := by decide +kernel
theorem dX1_before_16 : decode cX1_before 16 = .ok (.ireturn, 1) := by decide +kernel
theorem dX1_choose_0 : decode cX1_choose 0 = .ok (.aload_n 0, 1) := by decide +kernel
theorem dX1_choose_1 : decode cX1_choose 1 = .ok (.iload_n 1, 1) := by decide +kernel
theorem dX1_choose_2 : decode cX1_choose 2 = .ok (.invokevirtual 152, 3) := by decide +kernel
theorem dX1_choose_5 : decode cX1_choose 5 = .ok (.istore_n 3, 1) := by decide +kernel
theorem dX1_choose_6 : decode cX1_choose 6 = .ok (.aload_n 0, 1) := by decide +kernel
theorem dX1_choose_7 : decode cX1_choose 7 = .ok (.getfield 27, 3) := by decide +kernel
theorem dX1_choose_10 : decode cX1_choose 10 = .ok (.iload_n 1, 1) := by decide +kernel
theorem dX1_choose_11 : decode cX1_choose 11 = .ok (.iload_n 2, 1) := by decide +kernel
theorem dX1_choose_12 : decode cX1_choose 12 = .ok (.iastore, 1) := by decide +kernel
theorem dX1_choose_13 : decode cX1_choose 13 = .ok (.iconst 0, 1) := by decide +kernel
theorem dX1_choose_14 : decode cX1_choose 14 = .ok (.istore 4, 2) := by decide +kernel
theorem dX1_choose_16 : decode cX1_choose 16 = .ok (.iload 4, 2) := by decide +kernel
theorem dX1_choose_18 : decode cX1_choose 18 = .ok (.aload_n 0, 1) := by decide +kernel
theorem dX1_choose_19 : decode cX1_choose 19 = .ok (.getfield 39, 3) := by decide +kernel
theorem dX1_choose_22 : decode cX1_choose 22 = .ok (.getfield 94, 3) := by decide +kernel
theorem dX1_choose_25 : decode cX1_choose 25 = .ok (.if_icmp .ge 43, 3) := by decide +kernel
theorem dX1_choose_28 : decode cX1_choose 28 = .ok (.iload_n 1, 1) := by decide +kernel
theorem dX1_choose_29 : decode cX1_choose 29 = .ok (.iconst 4, 1) := by decide +kernel
theorem dX1_choose_30 : decode cX1_choose 30 = .ok (.imul, 1) := by decide +kernel
theorem dX1_choose_31 : decode cX1_choose 31 = .ok (.iload 4, 2) := by decide +kernel
theorem dX1_choose_33 : decode cX1_choose 33 = .ok (.iadd, 1) := by decide +kernel
theorem dX1_choose_34 : decode cX1_choose 34 = .ok (.istore 5, 2) := by decide +kernel
theorem dX1_choose_36 : decode cX1_choose 36 = .ok (.aload_n 0, 1) := by decide +kernel
theorem dX1_choose_37 : decode cX1_choose 37 = .ok (.getfield 24, 3) := by decide +kernel
theorem dX1_choose_40 : decode cX1_choose 40 = .ok (.iload 5, 2) := by decide +kernel
theorem dX1_choose_42 : decode cX1_choose 42 = .ok (.iconst 4, 1) := by decide +kernel
theorem dX1_choose_43 : decode cX1_choose 43 = .ok (.iadd, 1) := by decide +kernel
theorem dX1_choose_44 : decode cX1_choose 44 = .ok (.aload_n 0, 1) := by decide +kernel
theorem dX1_choose_45 : decode cX1_choose 45 = .ok (.getfield 24, 3) := by decide +kernel
theorem dX1_choose_48 : decode cX1_choose 48 = .ok (.iload 5, 2) := by decide +kernel
theorem dX1_choose_50 : decode cX1_choose 50 = .ok (.iaload, 1) := by decide +kernel
theorem dX1_choose_51 : decode cX1_choose 51 = .ok (.aload_n 0, 1) := by decide +kernel
theorem dX1_choose_52 : decode cX1_choose 52 = .ok (.iload_n 1, 1) := by decide +kernel
theorem dX1_choose_53 : decode cX1_choose 53 = .ok (.iload_n 3, 1) := by decide +kernel
theorem dX1_choose_54 : decode cX1_choose 54 = .ok (.iload_n 2, 1) := by decide +kernel
theorem dX1_choose_55 : decode cX1_choose 55 = .ok (.iload 4, 2) := by decide +kernel
theorem dX1_choose_57 : decode cX1_choose 57 = .ok (.invokevirtual 138, 3) := by decide +kernel
theorem dX1_choose_60 : decode cX1_choose 60 = .ok (.iadd, 1) := by decide +kernel
theorem dX1_choose_61 : decode cX1_choose 61 = .ok (.iastore, 1) := by decide +kernel
theorem dX1_choose_62 : decode cX1_choose 62 = .ok (.iinc 4 1, 3) := by decide +kernel
theorem dX1_choose_65 : decode cX1_choose 65 = .ok (.goto (-49), 3) := by decide +kernel
theorem dX1_choose_68 : decode cX1_choose 68 = .ok (.return_, 1) := by decide +kernel
theorem dX1_searchEvenest_0 : decode cX1_searchEvenest 0 = .ok (.aload_n 0, 1) := by decide +kernel
theorem dX1_searchEvenest_1 : decode cX1_searchEvenest 1 = .ok (.iload_n 1, 1) := by decide +kernel
theorem dX1_searchEvenest_2 : decode cX1_searchEvenest 2 = .ok (.putfield 155, 3) := by decide +kernel
theorem dX1_searchEvenest_5 : decode cX1_searchEvenest 5 = .ok (.aload_n 0, 1) := by decide +kernel
theorem dX1_searchEvenest_6 : decode cX1_searchEvenest 6 = .ok (.iconst 0, 1) := by decide +kernel
theorem dX1_searchEvenest_7 : decode cX1_searchEvenest 7 = .ok (.putfield 158, 3) := by decide +kernel
theorem dX1_searchEvenest_10 : decode cX1_searchEvenest 10 = .ok (.aload_n 0, 1) := by decide +kernel
theorem dX1_searchEvenest_11 : decode cX1_searchEvenest 11 = .ok (.ldc 137, 2) := by decide +kernel
theorem dX1_searchEvenest_13 : decode cX1_searchEvenest 13 = .ok (.putfield 161, 3) := by decide +kernel
theorem dX1_searchEvenest_16 : decode cX1_searchEvenest 16 = .ok (.aload_n 0, 1) := by decide +kernel
theorem dX1_searchEvenest_17 : decode cX1_searchEvenest 17 = .ok (.getfield 39, 3) := by decide +kernel
theorem dX1_searchEvenest_20 : decode cX1_searchEvenest 20 = .ok (.getfield 78, 3) := by decide +kernel
theorem dX1_searchEvenest_23 : decode cX1_searchEvenest 23 = .ok (.ifCond .ne 39, 3) := by decide +kernel
theorem dX1_searchEvenest_26 : decode cX1_searchEvenest 26 = .ok (.aload_n 0, 1) := by decide +kernel
theorem dX1_searchEvenest_27 : decode cX1_searchEvenest 27 = .ok (.aload_n 0, 1) := by decide +kernel
theorem dX1_searchEvenest_28 : decode cX1_searchEvenest 28 = .ok (.getfield 24, 3) := by decide +kernel
theorem dX1_searchEvenest_31 : decode cX1_searchEvenest 31 = .ok (.iconst 0, 1) := by decide +kernel
theorem dX1_searchEvenest_32 : decode cX1_searchEvenest 32 = .ok (.aload_n 0, 1) := by decide +kernel
theorem dX1_searchEvenest_33 : decode cX1_searchEvenest 33 = .ok (.getfield 39, 3) := by decide +kernel
theorem dX1_searchEvenest_36 : decode cX1_searchEvenest 36 = .ok (.getfield 94, 3) := by decide +kernel
theorem dX1_searchEvenest_39 : decode cX1_searchEvenest 39 = .ok (.invokestatic 164, 3) := by decide +kernel
theorem dX1_searchEvenest_42 : decode cX1_searchEvenest 42 = .ok (.putfield 161, 3) := by decide +kernel
theorem dX1_searchEvenest_45 : decode cX1_searchEvenest 45 = .ok (.aload_n 0, 1) := by decide +kernel
theorem dX1_searchEvenest_46 : decode cX1_searchEvenest 46 = .ok (.getfield 24, 3) := by decide +kernel
theorem dX1_searchEvenest_49 : decode cX1_searchEvenest 49 = .ok (.iconst 0, 1) := by decide +kernel
theorem dX1_searchEvenest_50 : decode cX1_searchEvenest 50 = .ok (.aload_n 0, 1) := by decide +kernel
theorem dX1_searchEvenest_51 : decode cX1_searchEvenest 51 = .ok (.getfield 33, 3) := by decide +kernel
theorem dX1_searchEvenest_54 : decode cX1_searchEvenest 54 = .ok (.iconst 0, 1) := by decide +kernel
theorem dX1_searchEvenest_55 : decode cX1_searchEvenest 55 = .ok (.iconst 4, 1) := by decide +kernel
theorem dX1_searchEvenest_56 : decode cX1_searchEvenest 56 = .ok (.invokestatic 65, 3) := by decide +kernel
theorem dX1_searchEvenest_59 : decode cX1_searchEvenest 59 = .ok (.goto 9, 3) := by decide +kernel
theorem dX1_searchEvenest_62 : decode cX1_searchEvenest 62 = .ok (.aload_n 0, 1) := by decide +kernel
theorem dX1_searchEvenest_63 : decode cX1_searchEvenest 63 = .ok (.iconst 0, 1) := by decide +kernel
theorem dX1_searchEvenest_64 : decode cX1_searchEvenest 64 = .ok (.iconst 0, 1) := by decide +kernel
theorem dX1_searchEvenest_65 : decode cX1_searchEvenest 65 = .ok (.invokevirtual 167, 3) := by decide +kernel
theorem dX1_searchEvenest_68 : decode cX1_searchEvenest 68 = .ok (.return_, 1) := by decide +kernel
theorem dX1_writeAnswer_0 : decode cX1_writeAnswer 0 = .ok (.aload_n 0, 1) := by decide +kernel
theorem dX1_writeAnswer_1 : decode cX1_writeAnswer 1 = .ok (.getfield 161, 3) := by decide +kernel
theorem dX1_writeAnswer_4 : decode cX1_writeAnswer 4 = .ok (.ldc 137, 2) := by decide +kernel
theorem dX1_writeAnswer_6 : decode cX1_writeAnswer 6 = .ok (.if_icmp .eq 7, 3) := by decide +kernel
theorem dX1_writeAnswer_9 : decode cX1_writeAnswer 9 = .ok (.iconst 1, 1) := by decide +kernel
theorem dX1_writeAnswer_10 : decode cX1_writeAnswer 10 = .ok (.goto 4, 3) := by decide +kernel
theorem dX1_writeAnswer_13 : decode cX1_writeAnswer 13 = .ok (.iconst 0, 1) := by decide +kernel
theorem dX1_writeAnswer_14 : decode cX1_writeAnswer 14 = .ok (.istore_n 2, 1) := by decide +kernel
theorem dX1_writeAnswer_15 : decode cX1_writeAnswer 15 = .ok (.aload_n 0, 1) := by decide +kernel
theorem dX1_writeAnswer_16 : decode cX1_writeAnswer 16 = .ok (.getfield 36, 3) := by decide +kernel
theorem dX1_writeAnswer_19 : decode cX1_writeAnswer 19 = .ok (.iload_n 1, 1) := by decide +kernel
theorem dX1_writeAnswer_20 : decode cX1_writeAnswer 20 = .ok (.iload_n 2, 1) := by decide +kernel
theorem dX1_writeAnswer_21 : decode cX1_writeAnswer 21 = .ok (.ifCond .eq 10, 3) := by decide +kernel
theorem dX1_writeAnswer_24 : decode cX1_writeAnswer 24 = .ok (.aload_n 0, 1) := by decide +kernel
theorem dX1_writeAnswer_25 : decode cX1_writeAnswer 25 = .ok (.getfield 161, 3) := by decide +kernel
theorem dX1_writeAnswer_28 : decode cX1_writeAnswer 28 = .ok (.goto 4, 3) := by decide +kernel
theorem dX1_writeAnswer_31 : decode cX1_writeAnswer 31 = .ok (.iconst (-1), 1) := by decide +kernel
theorem dX1_writeAnswer_32 : decode cX1_writeAnswer 32 = .ok (.iastore, 1) := by decide +kernel
theorem dX1_writeAnswer_33 : decode cX1_writeAnswer 33 = .ok (.aload_n 0, 1) := by decide +kernel
theorem dX1_writeAnswer_34 : decode cX1_writeAnswer 34 = .ok (.getfield 36, 3) := by decide +kernel
theorem dX1_writeAnswer_37 : decode cX1_writeAnswer 37 = .ok (.iload_n 1, 1) := by decide +kernel
theorem dX1_writeAnswer_38 : decode cX1_writeAnswer 38 = .ok (.iconst 1, 1) := by decide +kernel
theorem dX1_writeAnswer_39 : decode cX1_writeAnswer 39 = .ok (.iadd, 1) := by decide +kernel
theorem dX1_writeAnswer_40 : decode cX1_writeAnswer 40 = .ok (.iload_n 2, 1) := by decide +kernel
theorem dX1_writeAnswer_41 : decode cX1_writeAnswer 41 = .ok (.ifCond .eq 10, 3) := by decide +kernel
theorem dX1_writeAnswer_44 : decode cX1_writeAnswer 44 = .ok (.aload_n 0, 1) := by decide +kernel
theorem dX1_writeAnswer_45 : decode cX1_writeAnswer 45 = .ok (.getfield 158, 3) := by decide +kernel
theorem dX1_writeAnswer_48 : decode cX1_writeAnswer 48 = .ok (.goto 4, 3) := by decide +kernel
theorem dX1_writeAnswer_51 : decode cX1_writeAnswer 51 = .ok (.iconst (-1), 1) := by decide +kernel
theorem dX1_writeAnswer_52 : decode cX1_writeAnswer 52 = .ok (.iastore, 1) := by decide +kernel
theorem dX1_writeAnswer_53 : decode cX1_writeAnswer 53 = .ok (.iconst 0, 1) := by decide +kernel
theorem dX1_writeAnswer_54 : decode cX1_writeAnswer 54 = .ok (.istore_n 3, 1) := by decide +kernel
theorem dX1_writeAnswer_55 : decode cX1_writeAnswer 55 = .ok (.iload_n 3, 1) := by decide +kernel
theorem dX1_writeAnswer_56 : decode cX1_writeAnswer 56 = .ok (.iconst 4, 1) := by decide +kernel
theorem dX1_writeAnswer_57 : decode cX1_writeAnswer 57 = .ok (.if_icmp .ge 63, 3) := by decide +kernel
theorem dX1_writeAnswer_60 : decode cX1_writeAnswer 60 = .ok (.iload_n 2, 1) := by decide +kernel
theorem dX1_writeAnswer_61 : decode cX1_writeAnswer 61 = .ok (.ifCond .eq 18, 3) := by decide +kernel
theorem dX1_writeAnswer_64 : decode cX1_writeAnswer 64 = .ok (.iload_n 3, 1) := by decide +kernel
theorem dX1_writeAnswer_65 : decode cX1_writeAnswer 65 = .ok (.aload_n 0, 1) := by decide +kernel
theorem dX1_writeAnswer_66 : decode cX1_writeAnswer 66 = .ok (.getfield 39, 3) := by decide +kernel
theorem dX1_writeAnswer_69 : decode cX1_writeAnswer 69 = .ok (.getfield 78, 3) := by decide +kernel
theorem dX1_writeAnswer_72 : decode cX1_writeAnswer 72 = .ok (.if_icmp .ge 7, 3) := by decide +kernel
theorem dX1_writeAnswer_75 : decode cX1_writeAnswer 75 = .ok (.iconst 1, 1) := by decide +kernel
theorem dX1_writeAnswer_76 : decode cX1_writeAnswer 76 = .ok (.goto 4, 3) := by decide +kernel
theorem dX1_writeAnswer_79 : decode cX1_writeAnswer 79 = .ok (.iconst 0, 1) := by decide +kernel
theorem dX1_writeAnswer_80 : decode cX1_writeAnswer 80 = .ok (.istore 4, 2) := by decide +kernel
theorem dX1_writeAnswer_82 : decode cX1_writeAnswer 82 = .ok (.aload_n 0, 1) := by decide +kernel
theorem dX1_writeAnswer_83 : decode cX1_writeAnswer 83 = .ok (.getfield 36, 3) := by decide +kernel
theorem dX1_writeAnswer_86 : decode cX1_writeAnswer 86 = .ok (.iload_n 1, 1) := by decide +kernel
theorem dX1_writeAnswer_87 : decode cX1_writeAnswer 87 = .ok (.iconst 2, 1) := by decide +kernel
theorem dX1_writeAnswer_88 : decode cX1_writeAnswer 88 = .ok (.iadd, 1) := by decide +kernel
theorem dX1_writeAnswer_89 : decode cX1_writeAnswer 89 = .ok (.iload_n 3, 1) := by decide +kernel
theorem dX1_writeAnswer_90 : decode cX1_writeAnswer 90 = .ok (.iadd, 1) := by decide +kernel
theorem dX1_writeAnswer_91 : decode cX1_writeAnswer 91 = .ok (.iload 4, 2) := by decide +kernel
theorem dX1_writeAnswer_93 : decode cX1_writeAnswer 93 = .ok (.ifCond .eq 19, 3) := by decide +kernel
theorem dX1_writeAnswer_96 : decode cX1_writeAnswer 96 = .ok (.aload_n 0, 1) := by decide +kernel
theorem dX1_writeAnswer_97 : decode cX1_writeAnswer 97 = .ok (.getfield 39, 3) := by decide +kernel
theorem dX1_writeAnswer_100 : decode cX1_writeAnswer 100 = .ok (.aload_n 0, 1) := by decide +kernel
theorem dX1_writeAnswer_101 : decode cX1_writeAnswer 101 = .ok (.getfield 30, 3) := by decide +kernel
theorem dX1_writeAnswer_104 : decode cX1_writeAnswer 104 = .ok (.iload_n 3, 1) := by decide +kernel
theorem dX1_writeAnswer_105 : decode cX1_writeAnswer 105 = .ok (.iaload, 1) := by decide +kernel
theorem dX1_writeAnswer_106 : decode cX1_writeAnswer 106 = .ok (.invokevirtual 101, 3) := by decide +kernel
theorem dX1_writeAnswer_109 : decode cX1_writeAnswer 109 = .ok (.goto 4, 3) := by decide +kernel
theorem dX1_writeAnswer_112 : decode cX1_writeAnswer 112 = .ok (.iconst (-1), 1) := by decide +kernel
theorem dX1_writeAnswer_113 : decode cX1_writeAnswer 113 = .ok (.iastore, 1) := by decide +kernel
theorem dX1_writeAnswer_114 : decode cX1_writeAnswer 114 = .ok (.iinc 3 1, 3) := by decide +kernel
theorem dX1_writeAnswer_117 : decode cX1_writeAnswer 117 = .ok (.goto (-62), 3) := by decide +kernel
theorem dX1_writeAnswer_120 : decode cX1_writeAnswer 120 = .ok (.return_, 1) := by decide +kernel
theorem dX1_evenestFrom_0 : decode cX1_evenestFrom 0 = .ok (.aload_n 0, 1) := by decide +kernel
theorem dX1_evenestFrom_1 : decode cX1_evenestFrom 1 = .ok (.iload_n 1, 1) := by decide +kernel
theorem dX1_evenestFrom_2 : decode cX1_evenestFrom 2 = .ok (.invokevirtual 152, 3) := by decide +kernel
theorem dX1_evenestFrom_5 : decode cX1_evenestFrom 5 = .ok (.istore_n 3, 1) := by decide +kernel
theorem dX1_evenestFrom_6 : decode cX1_evenestFrom 6 = .ok (.iload_n 1, 1) := by decide +kernel
theorem dX1_evenestFrom_7 : decode cX1_evenestFrom 7 = .ok (.iconst 1, 1) := by decide +kernel
theorem dX1_evenestFrom_8 : decode cX1_evenestFrom 8 = .ok (.iadd, 1) := by decide +kernel
theorem dX1_evenestFrom_9 : decode cX1_evenestFrom 9 = .ok (.aload_n 0, 1) := by decide +kernel
theorem dX1_evenestFrom_10 : decode cX1_evenestFrom 10 = .ok (.getfield 39, 3) := by decide +kernel
theorem dX1_evenestFrom_13 : decode cX1_evenestFrom 13 = .ok (.getfield 78, 3) := by decide +kernel
theorem dX1_evenestFrom_16 : decode cX1_evenestFrom 16 = .ok (.if_icmp .lt 7, 3) := by decide +kernel
theorem dX1_evenestFrom_19 : decode cX1_evenestFrom 19 = .ok (.iconst 1, 1) := by decide +kernel
theorem dX1_evenestFrom_20 : decode cX1_evenestFrom 20 = .ok (.goto 4, 3) := by decide +kernel
theorem dX1_evenestFrom_23 : decode cX1_evenestFrom 23 = .ok (.iconst 0, 1) := by decide +kernel
theorem dX1_evenestFrom_24 : decode cX1_evenestFrom 24 = .ok (.istore 4, 2) := by decide +kernel
theorem dX1_evenestFrom_26 : decode cX1_evenestFrom 26 = .ok (.iconst 0, 1) := by decide +kernel
theorem dX1_evenestFrom_27 : decode cX1_evenestFrom 27 = .ok (.istore 5, 2) := by decide +kernel
theorem dX1_evenestFrom_29 : decode cX1_evenestFrom 29 = .ok (.iload 5, 2) := by decide +kernel
theorem dX1_evenestFrom_31 : decode cX1_evenestFrom 31 = .ok (.aload_n 0, 1) := by decide +kernel
theorem dX1_evenestFrom_32 : decode cX1_evenestFrom 32 = .ok (.getfield 39, 3) := by decide +kernel
theorem dX1_evenestFrom_35 : decode cX1_evenestFrom 35 = .ok (.getfield 109, 3) := by decide +kernel
theorem dX1_evenestFrom_38 : decode cX1_evenestFrom 38 = .ok (.if_icmp .ge 87, 3) := by decide +kernel
theorem dX1_evenestFrom_41 : decode cX1_evenestFrom 41 = .ok (.iload_n 2, 1) := by decide +kernel
theorem dX1_evenestFrom_42 : decode cX1_evenestFrom 42 = .ok (.aload_n 0, 1) := by decide +kernel
theorem dX1_evenestFrom_43 : decode cX1_evenestFrom 43 = .ok (.iload_n 3, 1) := by decide +kernel
theorem dX1_evenestFrom_44 : decode cX1_evenestFrom 44 = .ok (.iload 5, 2) := by decide +kernel
theorem dX1_evenestFrom_46 : decode cX1_evenestFrom 46 = .ok (.invokevirtual 170, 3) := by decide +kernel
theorem dX1_evenestFrom_49 : decode cX1_evenestFrom 49 = .ok (.iadd, 1) := by decide +kernel
theorem dX1_evenestFrom_50 : decode cX1_evenestFrom 50 = .ok (.istore 6, 2) := by decide +kernel
theorem dX1_evenestFrom_52 : decode cX1_evenestFrom 52 = .ok (.iload 6, 2) := by decide +kernel
theorem dX1_evenestFrom_54 : decode cX1_evenestFrom 54 = .ok (.aload_n 0, 1) := by decide +kernel
theorem dX1_evenestFrom_55 : decode cX1_evenestFrom 55 = .ok (.getfield 155, 3) := by decide +kernel
theorem dX1_evenestFrom_58 : decode cX1_evenestFrom 58 = .ok (.if_icmp .gt 20, 3) := by decide +kernel
theorem dX1_evenestFrom_61 : decode cX1_evenestFrom 61 = .ok (.iload 4, 2) := by decide +kernel
theorem dX1_evenestFrom_63 : decode cX1_evenestFrom 63 = .ok (.ifCond .eq 15, 3) := by decide +kernel
theorem dX1_evenestFrom_66 : decode cX1_evenestFrom 66 = .ok (.aload_n 0, 1) := by decide +kernel
theorem dX1_evenestFrom_67 : decode cX1_evenestFrom 67 = .ok (.iload_n 1, 1) := by decide +kernel
theorem dX1_evenestFrom_68 : decode cX1_evenestFrom 68 = .ok (.iload 5, 2) := by decide +kernel
theorem dX1_evenestFrom_70 : decode cX1_evenestFrom 70 = .ok (.iload 6, 2) := by decide +kernel
theorem dX1_evenestFrom_72 : decode cX1_evenestFrom 72 = .ok (.invokevirtual 173, 3) := by decide +kernel
theorem dX1_evenestFrom_75 : decode cX1_evenestFrom 75 = .ok (.goto 44, 3) := by decide +kernel
theorem dX1_evenestFrom_78 : decode cX1_evenestFrom 78 = .ok (.iload 6, 2) := by decide +kernel
theorem dX1_evenestFrom_80 : decode cX1_evenestFrom 80 = .ok (.aload_n 0, 1) := by decide +kernel
theorem dX1_evenestFrom_81 : decode cX1_evenestFrom 81 = .ok (.getfield 155, 3) := by decide +kernel
theorem dX1_evenestFrom_84 : decode cX1_evenestFrom 84 = .ok (.if_icmp .gt 35, 3) := by decide +kernel
theorem dX1_evenestFrom_87 : decode cX1_evenestFrom 87 = .ok (.aload_n 0, 1) := by decide +kernel
theorem dX1_evenestFrom_88 : decode cX1_evenestFrom 88 = .ok (.iload_n 1, 1) := by decide +kernel
theorem dX1_evenestFrom_89 : decode cX1_evenestFrom 89 = .ok (.iload 5, 2) := by decide +kernel
theorem dX1_evenestFrom_91 : decode cX1_evenestFrom 91 = .ok (.invokevirtual 177, 3) := by decide +kernel
theorem dX1_evenestFrom_94 : decode cX1_evenestFrom 94 = .ok (.aload_n 0, 1) := by decide +kernel
theorem dX1_evenestFrom_95 : decode cX1_evenestFrom 95 = .ok (.aload_n 0, 1) := by decide +kernel
theorem dX1_evenestFrom_96 : decode cX1_evenestFrom 96 = .ok (.iload_n 1, 1) := by decide +kernel
theorem dX1_evenestFrom_97 : decode cX1_evenestFrom 97 = .ok (.iload 5, 2) := by decide +kernel
theorem dX1_evenestFrom_99 : decode cX1_evenestFrom 99 = .ok (.invokevirtual 180, 3) := by decide +kernel
theorem dX1_evenestFrom_102 : decode cX1_evenestFrom 102 = .ok (.iload 6, 2) := by decide +kernel
theorem dX1_evenestFrom_104 : decode cX1_evenestFrom 104 = .ok (.invokevirtual 183, 3) := by decide +kernel
theorem dX1_evenestFrom_107 : decode cX1_evenestFrom 107 = .ok (.ifCond .eq 12, 3) := by decide +kernel
theorem dX1_evenestFrom_110 : decode cX1_evenestFrom 110 = .ok (.aload_n 0, 1) := by decide +kernel
theorem dX1_evenestFrom_111 : decode cX1_evenestFrom 111 = .ok (.iload_n 1, 1) := by decide +kernel
theorem dX1_evenestFrom_112 : decode cX1_evenestFrom 112 = .ok (.iconst 1, 1) := by decide +kernel
theorem dX1_evenestFrom_113 : decode cX1_evenestFrom 113 = .ok (.iadd, 1) := by decide +kernel
theorem dX1_evenestFrom_114 : decode cX1_evenestFrom 114 = .ok (.iload 6, 2) := by decide +kernel
theorem dX1_evenestFrom_116 : decode cX1_evenestFrom 116 = .ok (.invokevirtual 167, 3) := by decide +kernel
theorem dX1_evenestFrom_119 : decode cX1_evenestFrom 119 = .ok (.iinc 5 1, 3) := by decide +kernel
theorem dX1_evenestFrom_122 : decode cX1_evenestFrom 122 = .ok (.goto (-93), 3) := by decide +kernel
theorem dX1_evenestFrom_125 : decode cX1_evenestFrom 125 = .ok (.return_, 1) := by decide +kernel
theorem dX1_isEvener_0 : decode cX1_isEvener 0 = .ok (.iload_n 1, 1) := by decide +kernel
theorem dX1_isEvener_1 : decode cX1_isEvener 1 = .ok (.aload_n 0, 1) := by decide +kernel
theorem dX1_isEvener_2 : decode cX1_isEvener 2 = .ok (.getfield 161, 3) := by decide +kernel
theorem dX1_isEvener_5 : decode cX1_isEvener 5 = .ok (.if_icmp .lt 19, 3) := by decide +kernel
theorem dX1_isEvener_8 : decode cX1_isEvener 8 = .ok (.iload_n 1, 1) := by decide +kernel
theorem dX1_isEvener_9 : decode cX1_isEvener 9 = .ok (.aload_n 0, 1) := by decide +kernel
theorem dX1_isEvener_10 : decode cX1_isEvener 10 = .ok (.getfield 161, 3) := by decide +kernel
theorem dX1_isEvener_13 : decode cX1_isEvener 13 = .ok (.if_icmp .ne 15, 3) := by decide +kernel
theorem dX1_isEvener_16 : decode cX1_isEvener 16 = .ok (.iload_n 2, 1) := by decide +kernel
theorem dX1_isEvener_17 : decode cX1_isEvener 17 = .ok (.aload_n 0, 1) := by decide +kernel
theorem dX1_isEvener_18 : decode cX1_isEvener 18 = .ok (.getfield 158, 3) := by decide +kernel
theorem dX1_isEvener_21 : decode cX1_isEvener 21 = .ok (.if_icmp .ge 7, 3) := by decide +kernel
theorem dX1_isEvener_24 : decode cX1_isEvener 24 = .ok (.iconst 1, 1) := by decide +kernel
theorem dX1_isEvener_25 : decode cX1_isEvener 25 = .ok (.goto 4, 3) := by decide +kernel
theorem dX1_isEvener_28 : decode cX1_isEvener 28 = .ok (.iconst 0, 1) := by decide +kernel
theorem dX1_isEvener_29 : decode cX1_isEvener 29 = .ok (.ireturn, 1) := by decide +kernel
theorem dX1_keepIfEvener_0 : decode cX1_keepIfEvener 0 = .ok (.aload_n 0, 1) := by decide +kernel
theorem dX1_keepIfEvener_1 : decode cX1_keepIfEvener 1 = .ok (.aload_n 0, 1) := by decide +kernel
theorem dX1_keepIfEvener_2 : decode cX1_keepIfEvener 2 = .ok (.iload_n 1, 1) := by decide +kernel
theorem dX1_keepIfEvener_3 : decode cX1_keepIfEvener 3 = .ok (.iload_n 2, 1) := by decide +kernel
theorem dX1_keepIfEvener_4 : decode cX1_keepIfEvener 4 = .ok (.invokevirtual 187, 3) := by decide +kernel
theorem dX1_keepIfEvener_7 : decode cX1_keepIfEvener 7 = .ok (.iload_n 3, 1) := by decide +kernel
theorem dX1_keepIfEvener_8 : decode cX1_keepIfEvener 8 = .ok (.invokevirtual 183, 3) := by decide +kernel
theorem dX1_keepIfEvener_11 : decode cX1_keepIfEvener 11 = .ok (.ifCond .eq 33, 3) := by decide +kernel
theorem dX1_keepIfEvener_14 : decode cX1_keepIfEvener 14 = .ok (.aload_n 0, 1) := by decide +kernel
theorem dX1_keepIfEvener_15 : decode cX1_keepIfEvener 15 = .ok (.iload_n 1, 1) := by decide +kernel
theorem dX1_keepIfEvener_16 : decode cX1_keepIfEvener 16 = .ok (.iload_n 2, 1) := by decide +kernel
theorem dX1_keepIfEvener_17 : decode cX1_keepIfEvener 17 = .ok (.invokevirtual 177, 3) := by decide +kernel
theorem dX1_keepIfEvener_20 : decode cX1_keepIfEvener 20 = .ok (.aload_n 0, 1) := by decide +kernel
theorem dX1_keepIfEvener_21 : decode cX1_keepIfEvener 21 = .ok (.aload_n 0, 1) := by decide +kernel
theorem dX1_keepIfEvener_22 : decode cX1_keepIfEvener 22 = .ok (.getfield 24, 3) := by decide +kernel
theorem dX1_keepIfEvener_25 : decode cX1_keepIfEvener 25 = .ok (.iload_n 1, 1) := by decide +kernel
theorem dX1_keepIfEvener_26 : decode cX1_keepIfEvener 26 = .ok (.iconst 1, 1) := by decide +kernel
theorem dX1_keepIfEvener_27 : decode cX1_keepIfEvener 27 = .ok (.iadd, 1) := by decide +kernel
theorem dX1_keepIfEvener_28 : decode cX1_keepIfEvener 28 = .ok (.iconst 4, 1) := by decide +kernel
theorem dX1_keepIfEvener_29 : decode cX1_keepIfEvener 29 = .ok (.imul, 1) := by decide +kernel
theorem dX1_keepIfEvener_30 : decode cX1_keepIfEvener 30 = .ok (.aload_n 0, 1) := by decide +kernel
theorem dX1_keepIfEvener_31 : decode cX1_keepIfEvener 31 = .ok (.getfield 39, 3) := by decide +kernel
theorem dX1_keepIfEvener_34 : decode cX1_keepIfEvener 34 = .ok (.getfield 94, 3) := by decide +kernel
theorem dX1_keepIfEvener_37 : decode cX1_keepIfEvener 37 = .ok (.invokestatic 164, 3) := by decide +kernel
theorem dX1_keepIfEvener_40 : decode cX1_keepIfEvener 40 = .ok (.iload_n 3, 1) := by decide +kernel
theorem dX1_keepIfEvener_41 : decode cX1_keepIfEvener 41 = .ok (.invokevirtual 190, 3) := by decide +kernel
theorem dX1_keepIfEvener_44 : decode cX1_keepIfEvener 44 = .ok (.return_, 1) := by decide +kernel
theorem dX1_spreadWith_0 : decode cX1_spreadWith 0 = .ok (.aload_n 0, 1) := by decide +kernel
theorem dX1_spreadWith_1 : decode cX1_spreadWith 1 = .ok (.iload_n 1, 1) := by decide +kernel
theorem dX1_spreadWith_2 : decode cX1_spreadWith 2 = .ok (.invokevirtual 152, 3) := by decide +kernel
theorem dX1_spreadWith_5 : decode cX1_spreadWith 5 = .ok (.istore_n 3, 1) := by decide +kernel
theorem dX1_spreadWith_6 : decode cX1_spreadWith 6 = .ok (.ldc 137, 2) := by decide +kernel
theorem dX1_spreadWith_8 : decode cX1_spreadWith 8 = .ok (.istore 4, 2) := by decide +kernel
theorem dX1_spreadWith_10 : decode cX1_spreadWith 10 = .ok (.ldc 56, 2) := by decide +kernel
theorem dX1_spreadWith_12 : decode cX1_spreadWith 12 = .ok (.istore 5, 2) := by decide +kernel
theorem dX1_spreadWith_14 : decode cX1_spreadWith 14 = .ok (.iconst 0, 1) := by decide +kernel
theorem dX1_spreadWith_15 : decode cX1_spreadWith 15 = .ok (.istore 6, 2) := by decide +kernel
theorem dX1_spreadWith_17 : decode cX1_spreadWith 17 = .ok (.iload 6, 2) := by decide +kernel
theorem dX1_spreadWith_19 : decode cX1_spreadWith 19 = .ok (.aload_n 0, 1) := by decide +kernel
theorem dX1_spreadWith_20 : decode cX1_spreadWith 20 = .ok (.getfield 39, 3) := by decide +kernel
theorem dX1_spreadWith_23 : decode cX1_spreadWith 23 = .ok (.getfield 94, 3) := by decide +kernel
theorem dX1_spreadWith_26 : decode cX1_spreadWith 26 = .ok (.if_icmp .ge 68, 3) := by decide +kernel
theorem dX1_spreadWith_29 : decode cX1_spreadWith 29 = .ok (.aload_n 0, 1) := by decide +kernel
theorem dX1_spreadWith_30 : decode cX1_spreadWith 30 = .ok (.getfield 24, 3) := by decide +kernel
theorem dX1_spreadWith_33 : decode cX1_spreadWith 33 = .ok (.iload_n 1, 1) := by decide +kernel
theorem dX1_spreadWith_34 : decode cX1_spreadWith 34 = .ok (.iconst 4, 1) := by decide +kernel
theorem dX1_spreadWith_35 : decode cX1_spreadWith 35 = .ok (.imul, 1) := by decide +kernel
theorem dX1_spreadWith_36 : decode cX1_spreadWith 36 = .ok (.iload 6, 2) := by decide +kernel
theorem dX1_spreadWith_38 : decode cX1_spreadWith 38 = .ok (.iadd, 1) := by decide +kernel
theorem dX1_spreadWith_39 : decode cX1_spreadWith 39 = .ok (.iaload, 1) := by decide +kernel
theorem dX1_spreadWith_40 : decode cX1_spreadWith 40 = .ok (.aload_n 0, 1) := by decide +kernel
theorem dX1_spreadWith_41 : decode cX1_spreadWith 41 = .ok (.iload_n 1, 1) := by decide +kernel
theorem dX1_spreadWith_42 : decode cX1_spreadWith 42 = .ok (.iload_n 3, 1) := by decide +kernel
theorem dX1_spreadWith_43 : decode cX1_spreadWith 43 = .ok (.iload_n 2, 1) := by decide +kernel
theorem dX1_spreadWith_44 : decode cX1_spreadWith 44 = .ok (.iload 6, 2) := by decide +kernel
theorem dX1_spreadWith_46 : decode cX1_spreadWith 46 = .ok (.invokevirtual 138, 3) := by decide +kernel
theorem dX1_spreadWith_49 : decode cX1_spreadWith 49 = .ok (.iadd, 1) := by decide +kernel
theorem dX1_spreadWith_50 : decode cX1_spreadWith 50 = .ok (.istore 7, 2) := by decide +kernel
theorem dX1_spreadWith_52 : decode cX1_spreadWith 52 = .ok (.iload 4, 2) := by decide +kernel
theorem dX1_spreadWith_54 : decode cX1_spreadWith 54 = .ok (.iload 7, 2) := by decide +kernel
theorem dX1_spreadWith_56 : decode cX1_spreadWith 56 = .ok (.invokestatic 141, 3) := by decide +kernel
theorem dX1_spreadWith_59 : decode cX1_spreadWith 59 = .ok (.istore 4, 2) := by decide +kernel
theorem dX1_spreadWith_61 : decode cX1_spreadWith 61 = .ok (.iload 5, 2) := by decide +kernel
theorem dX1_spreadWith_63 : decode cX1_spreadWith 63 = .ok (.iload 7, 2) := by decide +kernel
theorem dX1_spreadWith_65 : decode cX1_spreadWith 65 = .ok (.invokestatic 193, 3) := by decide +kernel
theorem dX1_spreadWith_68 : decode cX1_spreadWith 68 = .ok (.istore 5, 2) := by decide +kernel
theorem dX1_spreadWith_70 : decode cX1_spreadWith 70 = .ok (.iload 5, 2) := by decide +kernel
theorem dX1_spreadWith_72 : decode cX1_spreadWith 72 = .ok (.iload 4, 2) := by decide +kernel
theorem dX1_spreadWith_74 : decode cX1_spreadWith 74 = .ok (.isub, 1) := by decide +kernel
theorem dX1_spreadWith_75 : decode cX1_spreadWith 75 = .ok (.aload_n 0, 1) := by decide +kernel
theorem dX1_spreadWith_76 : decode cX1_spreadWith 76 = .ok (.getfield 161, 3) := by decide +kernel
theorem dX1_spreadWith_79 : decode cX1_spreadWith 79 = .ok (.if_icmp .le 9, 3) := by decide +kernel
theorem dX1_spreadWith_82 : decode cX1_spreadWith 82 = .ok (.iload 5, 2) := by decide +kernel
theorem dX1_spreadWith_84 : decode cX1_spreadWith 84 = .ok (.iload 4, 2) := by decide +kernel
theorem dX1_spreadWith_86 : decode cX1_spreadWith 86 = .ok (.isub, 1) := by decide +kernel
theorem dX1_spreadWith_87 : decode cX1_spreadWith 87 = .ok (.ireturn, 1) := by decide +kernel
theorem dX1_spreadWith_88 : decode cX1_spreadWith 88 = .ok (.iinc 6 1, 3) := by decide +kernel
theorem dX1_spreadWith_91 : decode cX1_spreadWith 91 = .ok (.goto (-74), 3) := by decide +kernel
theorem dX1_spreadWith_94 : decode cX1_spreadWith 94 = .ok (.iload 5, 2) := by decide +kernel
theorem dX1_spreadWith_96 : decode cX1_spreadWith 96 = .ok (.iload 4, 2) := by decide +kernel
theorem dX1_spreadWith_98 : decode cX1_spreadWith 98 = .ok (.isub, 1) := by decide +kernel
theorem dX1_spreadWith_99 : decode cX1_spreadWith 99 = .ok (.ireturn, 1) := by decide +kernel
theorem dX1_keep_0 : decode cX1_keep 0 = .ok (.aload_n 0, 1) := by decide +kernel
theorem dX1_keep_1 : decode cX1_keep 1 = .ok (.iload_n 1, 1) := by decide +kernel
theorem dX1_keep_2 : decode cX1_keep 2 = .ok (.putfield 161, 3) := by decide +kernel
theorem dX1_keep_5 : decode cX1_keep 5 = .ok (.aload_n 0, 1) := by decide +kernel
theorem dX1_keep_6 : decode cX1_keep 6 = .ok (.iload_n 2, 1) := by decide +kernel
theorem dX1_keep_7 : decode cX1_keep 7 = .ok (.putfield 158, 3) := by decide +kernel
theorem dX1_keep_10 : decode cX1_keep 10 = .ok (.aload_n 0, 1) := by decide +kernel
theorem dX1_keep_11 : decode cX1_keep 11 = .ok (.getfield 27, 3) := by decide +kernel
theorem dX1_keep_14 : decode cX1_keep 14 = .ok (.iconst 0, 1) := by decide +kernel
theorem dX1_keep_15 : decode cX1_keep 15 = .ok (.aload_n 0, 1) := by decide +kernel
theorem dX1_keep_16 : decode cX1_keep 16 = .ok (.getfield 30, 3) := by decide +kernel
theorem dX1_keep_19 : decode cX1_keep 19 = .ok (.iconst 0, 1) := by decide +kernel
theorem dX1_keep_20 : decode cX1_keep 20 = .ok (.iconst 4, 1) := by decide +kernel
theorem dX1_keep_21 : decode cX1_keep 21 = .ok (.invokestatic 65, 3) := by decide +kernel
theorem dX1_keep_24 : decode cX1_keep 24 = .ok (.aload_n 0, 1) := by decide +kernel
theorem dX1_keep_25 : decode cX1_keep 25 = .ok (.getfield 24, 3) := by decide +kernel
theorem dX1_keep_28 : decode cX1_keep 28 = .ok (.aload_n 0, 1) := by decide +kernel
theorem dX1_keep_29 : decode cX1_keep 29 = .ok (.getfield 39, 3) := by decide +kernel
theorem dX1_keep_32 : decode cX1_keep 32 = .ok (.getfield 78, 3) := by decide +kernel
theorem dX1_keep_35 : decode cX1_keep 35 = .ok (.iconst 4, 1) := by decide +kernel
theorem dX1_keep_36 : decode cX1_keep 36 = .ok (.imul, 1) := by decide +kernel
theorem dX1_keep_37 : decode cX1_keep 37 = .ok (.aload_n 0, 1) := by decide +kernel
theorem dX1_keep_38 : decode cX1_keep 38 = .ok (.getfield 33, 3) := by decide +kernel
theorem dX1_keep_41 : decode cX1_keep 41 = .ok (.iconst 0, 1) := by decide +kernel
theorem dX1_keep_42 : decode cX1_keep 42 = .ok (.iconst 4, 1) := by decide +kernel
theorem dX1_keep_43 : decode cX1_keep 43 = .ok (.invokestatic 65, 3) := by decide +kernel
theorem dX1_keep_46 : decode cX1_keep 46 = .ok (.return_, 1) := by decide +kernel
theorem dX1_leastSpread_0 : decode cX1_leastSpread 0 = .ok (.iload_n 1, 1) := by decide +kernel
theorem dX1_leastSpread_1 : decode cX1_leastSpread 1 = .ok (.iconst 1, 1) := by decide +kernel
theorem dX1_leastSpread_2 : decode cX1_leastSpread 2 = .ok (.iadd, 1) := by decide +kernel
theorem dX1_leastSpread_3 : decode cX1_leastSpread 3 = .ok (.iconst 4, 1) := by decide +kernel
theorem dX1_leastSpread_4 : decode cX1_leastSpread 4 = .ok (.imul, 1) := by decide +kernel
theorem dX1_leastSpread_5 : decode cX1_leastSpread 5 = .ok (.istore_n 3, 1) := by decide +kernel
theorem dX1_leastSpread_6 : decode cX1_leastSpread 6 = .ok (.iconst 0, 1) := by decide +kernel
theorem dX1_leastSpread_7 : decode cX1_leastSpread 7 = .ok (.istore 4, 2) := by decide +kernel
theorem dX1_leastSpread_9 : decode cX1_leastSpread 9 = .ok (.iconst 0, 1) := by decide +kernel
theorem dX1_leastSpread_10 : decode cX1_leastSpread 10 = .ok (.istore 5, 2) := by decide +kernel
theorem dX1_leastSpread_12 : decode cX1_leastSpread 12 = .ok (.iload 5, 2) := by decide +kernel
theorem dX1_leastSpread_14 : decode cX1_leastSpread 14 = .ok (.aload_n 0, 1) := by decide +kernel
theorem dX1_leastSpread_15 : decode cX1_leastSpread 15 = .ok (.getfield 39, 3) := by decide +kernel
theorem dX1_leastSpread_18 : decode cX1_leastSpread 18 = .ok (.getfield 94, 3) := by decide +kernel
theorem dX1_leastSpread_21 : decode cX1_leastSpread 21 = .ok (.if_icmp .ge 82, 3) := by decide +kernel
theorem dX1_leastSpread_24 : decode cX1_leastSpread 24 = .ok (.iconst 0, 1) := by decide +kernel
theorem dX1_leastSpread_25 : decode cX1_leastSpread 25 = .ok (.istore 6, 2) := by decide +kernel
theorem dX1_leastSpread_27 : decode cX1_leastSpread 27 = .ok (.iload 6, 2) := by decide +kernel
theorem dX1_leastSpread_29 : decode cX1_leastSpread 29 = .ok (.aload_n 0, 1) := by decide +kernel
theorem dX1_leastSpread_30 : decode cX1_leastSpread 30 = .ok (.getfield 39, 3) := by decide +kernel
theorem dX1_leastSpread_33 : decode cX1_leastSpread 33 = .ok (.getfield 94, 3) := by decide +kernel
theorem dX1_leastSpread_36 : decode cX1_leastSpread 36 = .ok (.if_icmp .ge 61, 3) := by decide +kernel
theorem dX1_leastSpread_39 : decode cX1_leastSpread 39 = .ok (.iload 5, 2) := by decide +kernel
theorem dX1_leastSpread_41 : decode cX1_leastSpread 41 = .ok (.iload 6, 2) := by decide +kernel
theorem dX1_leastSpread_43 : decode cX1_leastSpread 43 = .ok (.if_icmp .eq 48, 3) := by decide +kernel
theorem dX1_leastSpread_46 : decode cX1_leastSpread 46 = .ok (.aload_n 0, 1) := by decide +kernel
theorem dX1_leastSpread_47 : decode cX1_leastSpread 47 = .ok (.getfield 24, 3) := by decide +kernel
theorem dX1_leastSpread_50 : decode cX1_leastSpread 50 = .ok (.iload_n 3, 1) := by decide +kernel
theorem dX1_leastSpread_51 : decode cX1_leastSpread 51 = .ok (.iload 5, 2) := by decide +kernel
theorem dX1_leastSpread_53 : decode cX1_leastSpread 53 = .ok (.iadd, 1) := by decide +kernel
theorem dX1_leastSpread_54 : decode cX1_leastSpread 54 = .ok (.iaload, 1) := by decide +kernel
theorem dX1_leastSpread_55 : decode cX1_leastSpread 55 = .ok (.aload_n 0, 1) := by decide +kernel
theorem dX1_leastSpread_56 : decode cX1_leastSpread 56 = .ok (.getfield 24, 3) := by decide +kernel
theorem dX1_leastSpread_59 : decode cX1_leastSpread 59 = .ok (.iload_n 3, 1) := by decide +kernel
theorem dX1_leastSpread_60 : decode cX1_leastSpread 60 = .ok (.iload 6, 2) := by decide +kernel
theorem dX1_leastSpread_62 : decode cX1_leastSpread 62 = .ok (.iadd, 1) := by decide +kernel
theorem dX1_leastSpread_63 : decode cX1_leastSpread 63 = .ok (.iaload, 1) := by decide +kernel
theorem dX1_leastSpread_64 : decode cX1_leastSpread 64 = .ok (.isub, 1) := by decide +kernel
theorem dX1_leastSpread_65 : decode cX1_leastSpread 65 = .ok (.istore 7, 2) := by decide +kernel
theorem dX1_leastSpread_67 : decode cX1_leastSpread 67 = .ok (.iload 4, 2) := by decide +kernel
theorem dX1_leastSpread_69 : decode cX1_leastSpread 69 = .ok (.iload 7, 2) := by decide +kernel
theorem dX1_leastSpread_71 : decode cX1_leastSpread 71 = .ok (.aload_n 0, 1) := by decide +kernel
theorem dX1_leastSpread_72 : decode cX1_leastSpread 72 = .ok (.getfield 18, 3) := by decide +kernel
theorem dX1_leastSpread_75 : decode cX1_leastSpread 75 = .ok (.iload_n 1, 1) := by decide +kernel
theorem dX1_leastSpread_76 : decode cX1_leastSpread 76 = .ok (.iload_n 2, 1) := by decide +kernel
theorem dX1_leastSpread_77 : decode cX1_leastSpread 77 = .ok (.iload 5, 2) := by decide +kernel
theorem dX1_leastSpread_79 : decode cX1_leastSpread 79 = .ok (.iload 6, 2) := by decide +kernel
theorem dX1_leastSpread_81 : decode cX1_leastSpread 81 = .ok (.invokestatic 130, 3) := by decide +kernel
theorem dX1_leastSpread_84 : decode cX1_leastSpread 84 = .ok (.iaload, 1) := by decide +kernel
theorem dX1_leastSpread_85 : decode cX1_leastSpread 85 = .ok (.iadd, 1) := by decide +kernel
theorem dX1_leastSpread_86 : decode cX1_leastSpread 86 = .ok (.invokestatic 193, 3) := by decide +kernel
theorem dX1_leastSpread_89 : decode cX1_leastSpread 89 = .ok (.istore 4, 2) := by decide +kernel
theorem dX1_leastSpread_91 : decode cX1_leastSpread 91 = .ok (.iinc 6 1, 3) := by decide +kernel
theorem dX1_leastSpread_94 : decode cX1_leastSpread 94 = .ok (.goto (-67), 3) := by decide +kernel
theorem dX1_leastSpread_97 : decode cX1_leastSpread 97 = .ok (.iinc 5 1, 3) := by decide +kernel
theorem dX1_leastSpread_100 : decode cX1_leastSpread 100 = .ok (.goto (-88), 3) := by decide +kernel
theorem dX1_leastSpread_103 : decode cX1_leastSpread 103 = .ok (.iload 4, 2) := by decide +kernel
theorem dX1_leastSpread_105 : decode cX1_leastSpread 105 = .ok (.ireturn, 1) := by decide +kernel
theorem dX1_leastTotal_0 : decode cX1_leastTotal 0 = .ok (.ldc 137, 2) := by decide +kernel
theorem dX1_leastTotal_2 : decode cX1_leastTotal 2 = .ok (.istore_n 1, 1) := by decide +kernel
theorem dX1_leastTotal_3 : decode cX1_leastTotal 3 = .ok (.iconst 0, 1) := by decide +kernel
theorem dX1_leastTotal_4 : decode cX1_leastTotal 4 = .ok (.istore_n 2, 1) := by decide +kernel
theorem dX1_leastTotal_5 : decode cX1_leastTotal 5 = .ok (.iload_n 2, 1) := by decide +kernel
theorem dX1_leastTotal_6 : decode cX1_leastTotal 6 = .ok (.aload_n 0, 1) := by decide +kernel
theorem dX1_leastTotal_7 : decode cX1_leastTotal 7 = .ok (.getfield 39, 3) := by decide +kernel
theorem dX1_leastTotal_10 : decode cX1_leastTotal 10 = .ok (.getfield 94, 3) := by decide +kernel
theorem dX1_leastTotal_13 : decode cX1_leastTotal 13 = .ok (.if_icmp .ge 20, 3) := by decide +kernel
theorem dX1_leastTotal_16 : decode cX1_leastTotal 16 = .ok (.iload_n 1, 1) := by decide +kernel
theorem dX1_leastTotal_17 : decode cX1_leastTotal 17 = .ok (.aload_n 0, 1) := by decide +kernel
theorem dX1_leastTotal_18 : decode cX1_leastTotal 18 = .ok (.getfield 24, 3) := by decide +kernel
theorem dX1_leastTotal_21 : decode cX1_leastTotal 21 = .ok (.iload_n 2, 1) := by decide +kernel
theorem dX1_leastTotal_22 : decode cX1_leastTotal 22 = .ok (.iaload, 1) := by decide +kernel
theorem dX1_leastTotal_23 : decode cX1_leastTotal 23 = .ok (.invokestatic 141, 3) := by decide +kernel
theorem dX1_leastTotal_26 : decode cX1_leastTotal 26 = .ok (.istore_n 1, 1) := by decide +kernel
theorem dX1_leastTotal_27 : decode cX1_leastTotal 27 = .ok (.iinc 2 1, 3) := by decide +kernel
theorem dX1_leastTotal_30 : decode cX1_leastTotal 30 = .ok (.goto (-25), 3) := by decide +kernel
theorem dX1_leastTotal_33 : decode cX1_leastTotal 33 = .ok (.iload_n 1, 1) := by decide +kernel
theorem dX1_leastTotal_34 : decode cX1_leastTotal 34 = .ok (.ireturn, 1) := by decide +kernel
theorem dX1_leastFrom_0 : decode cX1_leastFrom 0 = .ok (.iconst 0, 1) := by decide +kernel
theorem dX1_leastFrom_1 : decode cX1_leastFrom 1 = .ok (.istore_n 2, 1) := by decide +kernel
theorem dX1_leastFrom_2 : decode cX1_leastFrom 2 = .ok (.iload_n 2, 1) := by decide +kernel
theorem dX1_leastFrom_3 : decode cX1_leastFrom 3 = .ok (.aload_n 0, 1) := by decide +kernel
theorem dX1_leastFrom_4 : decode cX1_leastFrom 4 = .ok (.getfield 39, 3) := by decide +kernel
theorem dX1_leastFrom_7 : decode cX1_leastFrom 7 = .ok (.getfield 109, 3) := by decide +kernel
theorem dX1_leastFrom_10 : decode cX1_leastFrom 10 = .ok (.if_icmp .ge 66, 3) := by decide +kernel
theorem dX1_leastFrom_13 : decode cX1_leastFrom 13 = .ok (.aload_n 0, 1) := by decide +kernel
theorem dX1_leastFrom_14 : decode cX1_leastFrom 14 = .ok (.iload_n 1, 1) := by decide +kernel
theorem dX1_leastFrom_15 : decode cX1_leastFrom 15 = .ok (.iload_n 2, 1) := by decide +kernel
theorem dX1_leastFrom_16 : decode cX1_leastFrom 16 = .ok (.invokevirtual 177, 3) := by decide +kernel
theorem dX1_leastFrom_19 : decode cX1_leastFrom 19 = .ok (.aload_n 0, 1) := by decide +kernel
theorem dX1_leastFrom_20 : decode cX1_leastFrom 20 = .ok (.iload_n 1, 1) := by decide +kernel
theorem dX1_leastFrom_21 : decode cX1_leastFrom 21 = .ok (.iload_n 2, 1) := by decide +kernel
theorem dX1_leastFrom_22 : decode cX1_leastFrom 22 = .ok (.invokevirtual 196, 3) := by decide +kernel
theorem dX1_leastFrom_25 : decode cX1_leastFrom 25 = .ok (.istore_n 3, 1) := by decide +kernel
theorem dX1_leastFrom_26 : decode cX1_leastFrom 26 = .ok (.iload_n 3, 1) := by decide +kernel
theorem dX1_leastFrom_27 : decode cX1_leastFrom 27 = .ok (.aload_n 0, 1) := by decide +kernel
theorem dX1_leastFrom_28 : decode cX1_leastFrom 28 = .ok (.getfield 57, 3) := by decide +kernel
theorem dX1_leastFrom_31 : decode cX1_leastFrom 31 = .ok (.if_icmp .le 26, 3) := by decide +kernel
theorem dX1_leastFrom_34 : decode cX1_leastFrom 34 = .ok (.iload_n 1, 1) := by decide +kernel
theorem dX1_leastFrom_35 : decode cX1_leastFrom 35 = .ok (.iconst 1, 1) := by decide +kernel
theorem dX1_leastFrom_36 : decode cX1_leastFrom 36 = .ok (.iadd, 1) := by decide +kernel
theorem dX1_leastFrom_37 : decode cX1_leastFrom 37 = .ok (.aload_n 0, 1) := by decide +kernel
theorem dX1_leastFrom_38 : decode cX1_leastFrom 38 = .ok (.getfield 39, 3) := by decide +kernel
theorem dX1_leastFrom_41 : decode cX1_leastFrom 41 = .ok (.getfield 78, 3) := by decide +kernel
theorem dX1_leastFrom_44 : decode cX1_leastFrom 44 = .ok (.if_icmp .ge 13, 3) := by decide +kernel
theorem dX1_leastFrom_47 : decode cX1_leastFrom 47 = .ok (.aload_n 0, 1) := by decide +kernel
theorem dX1_leastFrom_48 : decode cX1_leastFrom 48 = .ok (.iload_n 1, 1) := by decide +kernel
theorem dX1_leastFrom_49 : decode cX1_leastFrom 49 = .ok (.iconst 1, 1) := by decide +kernel
theorem dX1_leastFrom_50 : decode cX1_leastFrom 50 = .ok (.iadd, 1) := by decide +kernel
theorem dX1_leastFrom_51 : decode cX1_leastFrom 51 = .ok (.invokevirtual 85, 3) := by decide +kernel
theorem dX1_leastFrom_54 : decode cX1_leastFrom 54 = .ok (.goto 16, 3) := by decide +kernel
theorem dX1_leastFrom_57 : decode cX1_leastFrom 57 = .ok (.iload_n 3, 1) := by decide +kernel
theorem dX1_leastFrom_58 : decode cX1_leastFrom 58 = .ok (.aload_n 0, 1) := by decide +kernel
theorem dX1_leastFrom_59 : decode cX1_leastFrom 59 = .ok (.getfield 57, 3) := by decide +kernel
theorem dX1_leastFrom_62 : decode cX1_leastFrom 62 = .ok (.if_icmp .le 8, 3) := by decide +kernel
theorem dX1_leastFrom_65 : decode cX1_leastFrom 65 = .ok (.aload_n 0, 1) := by decide +kernel
theorem dX1_leastFrom_66 : decode cX1_leastFrom 66 = .ok (.iload_n 3, 1) := by decide +kernel
theorem dX1_leastFrom_67 : decode cX1_leastFrom 67 = .ok (.putfield 57, 3) := by decide +kernel
theorem dX1_leastFrom_70 : decode cX1_leastFrom 70 = .ok (.iinc 2 1, 3) := by decide +kernel
theorem dX1_leastFrom_73 : decode cX1_leastFrom 73 = .ok (.goto (-71), 3) := by decide +kernel
theorem dX1_leastFrom_76 : decode cX1_leastFrom 76 = .ok (.return_, 1) := by decide +kernel
theorem dX1_leastThatCouldBe_0 : decode cX1_leastThatCouldBe 0 = .ok (.iload_n 1, 1) := by decide +kernel
theorem dX1_leastThatCouldBe_1 : decode cX1_leastThatCouldBe 1 = .ok (.iconst 1, 1) := by decide +kernel
theorem dX1_leastThatCouldBe_2 : decode cX1_leastThatCouldBe 2 = .ok (.iadd, 1) := by decide +kernel
theorem dX1_leastThatCouldBe_3 : decode cX1_leastThatCouldBe 3 = .ok (.iconst 4, 1) := by decide +kernel
theorem dX1_leastThatCouldBe_4 : decode cX1_leastThatCouldBe 4 = .ok (.imul, 1) := by decide +kernel
theorem dX1_leastThatCouldBe_5 : decode cX1_leastThatCouldBe 5 = .ok (.istore_n 3, 1) := by decide +kernel
theorem dX1_leastThatCouldBe_6 : decode cX1_leastThatCouldBe 6 = .ok (.ldc 137, 2) := by decide +kernel
theorem dX1_leastThatCouldBe_8 : decode cX1_leastThatCouldBe 8 = .ok (.istore 4, 2) := by decide +kernel
theorem dX1_leastThatCouldBe_10 : decode cX1_leastThatCouldBe 10 = .ok (.iconst 0, 1) := by decide +kernel
theorem dX1_leastThatCouldBe_11 : decode cX1_leastThatCouldBe 11 = .ok (.istore 5, 2) := by decide +kernel
theorem dX1_leastThatCouldBe_13 : decode cX1_leastThatCouldBe 13 = .ok (.iload 5, 2) := by decide +kernel
theorem dX1_leastThatCouldBe_15 : decode cX1_leastThatCouldBe 15 = .ok (.aload_n 0, 1) := by decide +kernel
theorem dX1_leastThatCouldBe_16 : decode cX1_leastThatCouldBe 16 = .ok (.getfield 39, 3) := by decide +kernel
theorem dX1_leastThatCouldBe_19 : decode cX1_leastThatCouldBe 19 = .ok (.getfield 94, 3) := by decide +kernel
theorem dX1_leastThatCouldBe_22 : decode cX1_leastThatCouldBe 22 = .ok (.if_icmp .ge 39, 3) := by decide +kernel
theorem dX1_leastThatCouldBe_25 : decode cX1_leastThatCouldBe 25 = .ok (.iload 4, 2) := by decide +kernel
theorem dX1_leastThatCouldBe_27 : decode cX1_leastThatCouldBe 27 = .ok (.aload_n 0, 1) := by decide +kernel
theorem dX1_leastThatCouldBe_28 : decode cX1_leastThatCouldBe 28 = .ok (.getfield 24, 3) := by decide +kernel
theorem dX1_leastThatCouldBe_31 : decode cX1_leastThatCouldBe 31 = .ok (.iload_n 3, 1) := by decide +kernel
theorem dX1_leastThatCouldBe_32 : decode cX1_leastThatCouldBe 32 = .ok (.iload 5, 2) := by decide +kernel
theorem dX1_leastThatCouldBe_34 : decode cX1_leastThatCouldBe 34 = .ok (.iadd, 1) := by decide +kernel
theorem dX1_leastThatCouldBe_35 : decode cX1_leastThatCouldBe 35 = .ok (.iaload, 1) := by decide +kernel
theorem dX1_leastThatCouldBe_36 : decode cX1_leastThatCouldBe 36 = .ok (.aload_n 0, 1) := by decide +kernel
theorem dX1_leastThatCouldBe_37 : decode cX1_leastThatCouldBe 37 = .ok (.getfield 18, 3) := by decide +kernel
theorem dX1_leastThatCouldBe_40 : decode cX1_leastThatCouldBe 40 = .ok (.iload_n 1, 1) := by decide +kernel
theorem dX1_leastThatCouldBe_41 : decode cX1_leastThatCouldBe 41 = .ok (.iload_n 2, 1) := by decide +kernel
theorem dX1_leastThatCouldBe_42 : decode cX1_leastThatCouldBe 42 = .ok (.iconst 4, 1) := by decide +kernel
theorem dX1_leastThatCouldBe_43 : decode cX1_leastThatCouldBe 43 = .ok (.iload 5, 2) := by decide +kernel
theorem dX1_leastThatCouldBe_45 : decode cX1_leastThatCouldBe 45 = .ok (.invokestatic 130, 3) := by decide +kernel
theorem dX1_leastThatCouldBe_48 : decode cX1_leastThatCouldBe 48 = .ok (.iaload, 1) := by decide +kernel
theorem dX1_leastThatCouldBe_49 : decode cX1_leastThatCouldBe 49 = .ok (.isub, 1) := by decide +kernel
theorem dX1_leastThatCouldBe_50 : decode cX1_leastThatCouldBe 50 = .ok (.invokestatic 141, 3) := by decide +kernel
theorem dX1_leastThatCouldBe_53 : decode cX1_leastThatCouldBe 53 = .ok (.istore 4, 2) := by decide +kernel
theorem dX1_leastThatCouldBe_55 : decode cX1_leastThatCouldBe 55 = .ok (.iinc 5 1, 3) := by decide +kernel
theorem dX1_leastThatCouldBe_58 : decode cX1_leastThatCouldBe 58 = .ok (.goto (-45), 3) := by decide +kernel
theorem dX1_leastThatCouldBe_61 : decode cX1_leastThatCouldBe 61 = .ok (.iload 4, 2) := by decide +kernel
theorem dX1_leastThatCouldBe_63 : decode cX1_leastThatCouldBe 63 = .ok (.ireturn, 1) := by decide +kernel
theorem dX1_countTillEven_0 : decode cX1_countTillEven 0 = .ok (.aload_n 0, 1) := by decide +kernel
theorem dX1_countTillEven_1 : decode cX1_countTillEven 1 = .ok (.getfield 39, 3) := by decide +kernel
theorem dX1_countTillEven_4 : decode cX1_countTillEven 4 = .ok (.getfield 60, 3) := by decide +kernel
theorem dX1_countTillEven_7 : decode cX1_countTillEven 7 = .ok (.iconst 0, 1) := by decide +kernel
theorem dX1_countTillEven_8 : decode cX1_countTillEven 8 = .ok (.aload_n 0, 1) := by decide +kernel
theorem dX1_countTillEven_9 : decode cX1_countTillEven 9 = .ok (.getfield 24, 3) := by decide +kernel
theorem dX1_countTillEven_12 : decode cX1_countTillEven 12 = .ok (.iconst 0, 1) := by decide +kernel
theorem dX1_countTillEven_13 : decode cX1_countTillEven 13 = .ok (.iconst 4, 1) := by decide +kernel
theorem dX1_countTillEven_14 : decode cX1_countTillEven 14 = .ok (.invokestatic 65, 3) := by decide +kernel
theorem dX1_countTillEven_17 : decode cX1_countTillEven 17 = .ok (.iconst 1, 1) := by decide +kernel
theorem dX1_countTillEven_18 : decode cX1_countTillEven 18 = .ok (.istore_n 1, 1) := by decide +kernel
theorem dX1_countTillEven_19 : decode cX1_countTillEven 19 = .ok (.iload_n 1, 1) := by decide +kernel
theorem dX1_countTillEven_20 : decode cX1_countTillEven 20 = .ok (.bipush 20, 2) := by decide +kernel
theorem dX1_countTillEven_22 : decode cX1_countTillEven 22 = .ok (.if_icmp .gt 38, 3) := by decide +kernel
theorem dX1_countTillEven_25 : decode cX1_countTillEven 25 = .ok (.aload_n 0, 1) := by decide +kernel
theorem dX1_countTillEven_26 : decode cX1_countTillEven 26 = .ok (.bipush 12, 2) := by decide +kernel
theorem dX1_countTillEven_28 : decode cX1_countTillEven 28 = .ok (.invokevirtual 71, 3) := by decide +kernel
theorem dX1_countTillEven_31 : decode cX1_countTillEven 31 = .ok (.aload_n 0, 1) := by decide +kernel
theorem dX1_countTillEven_32 : decode cX1_countTillEven 32 = .ok (.getfield 161, 3) := by decide +kernel
theorem dX1_countTillEven_35 : decode cX1_countTillEven 35 = .ok (.ifCond .ne 5, 3) := by decide +kernel
theorem dX1_countTillEven_38 : decode cX1_countTillEven 38 = .ok (.iload_n 1, 1) := by decide +kernel
theorem dX1_countTillEven_39 : decode cX1_countTillEven 39 = .ok (.ireturn, 1) := by decide +kernel
theorem dX1_countTillEven_40 : decode cX1_countTillEven 40 = .ok (.aload_n 0, 1) := by decide +kernel
theorem dX1_countTillEven_41 : decode cX1_countTillEven 41 = .ok (.getfield 33, 3) := by decide +kernel
theorem dX1_countTillEven_44 : decode cX1_countTillEven 44 = .ok (.iconst 0, 1) := by decide +kernel
theorem dX1_countTillEven_45 : decode cX1_countTillEven 45 = .ok (.aload_n 0, 1) := by decide +kernel
theorem dX1_countTillEven_46 : decode cX1_countTillEven 46 = .ok (.getfield 24, 3) := by decide +kernel
theorem dX1_countTillEven_49 : decode cX1_countTillEven 49 = .ok (.iconst 0, 1) := by decide +kernel
theorem dX1_countTillEven_50 : decode cX1_countTillEven 50 = .ok (.iconst 4, 1) := by decide +kernel
theorem dX1_countTillEven_51 : decode cX1_countTillEven 51 = .ok (.invokestatic 65, 3) := by decide +kernel
theorem dX1_countTillEven_54 : decode cX1_countTillEven 54 = .ok (.iinc 1 1, 3) := by decide +kernel
theorem dX1_countTillEven_57 : decode cX1_countTillEven 57 = .ok (.goto (-38), 3) := by decide +kernel
theorem dX1_countTillEven_60 : decode cX1_countTillEven 60 = .ok (.iconst (-1), 1) := by decide +kernel
theorem dX1_countTillEven_61 : decode cX1_countTillEven 61 = .ok (.ireturn, 1) := by decide +kernel
theorem dX1_sumOf_0 : decode cX1_sumOf 0 = .ok (.iconst 0, 1) := by decide +kernel
theorem dX1_sumOf_1 : decode cX1_sumOf 1 = .ok (.istore 4, 2) := by decide +kernel
theorem dX1_sumOf_3 : decode cX1_sumOf 3 = .ok (.iconst 0, 1) := by decide +kernel
theorem dX1_sumOf_4 : decode cX1_sumOf 4 = .ok (.istore 5, 2) := by decide +kernel
theorem dX1_sumOf_6 : decode cX1_sumOf 6 = .ok (.iload 5, 2) := by decide +kernel
theorem dX1_sumOf_8 : decode cX1_sumOf 8 = .ok (.aload_n 0, 1) := by decide +kernel
theorem dX1_sumOf_9 : decode cX1_sumOf 9 = .ok (.getfield 39, 3) := by decide +kernel
theorem dX1_sumOf_12 : decode cX1_sumOf 12 = .ok (.getfield 94, 3) := by decide +kernel
theorem dX1_sumOf_15 : decode cX1_sumOf 15 = .ok (.if_icmp .ge 23, 3) := by decide +kernel
theorem dX1_sumOf_18 : decode cX1_sumOf 18 = .ok (.iload 4, 2) := by decide +kernel
theorem dX1_sumOf_20 : decode cX1_sumOf 20 = .ok (.aload_n 0, 1) := by decide +kernel
theorem dX1_sumOf_21 : decode cX1_sumOf 21 = .ok (.iload_n 1, 1) := by decide +kernel
theorem dX1_sumOf_22 : decode cX1_sumOf 22 = .ok (.iload_n 2, 1) := by decide +kernel
theorem dX1_sumOf_23 : decode cX1_sumOf 23 = .ok (.iload_n 3, 1) := by decide +kernel
theorem dX1_sumOf_24 : decode cX1_sumOf 24 = .ok (.iload 5, 2) := by decide +kernel
theorem dX1_sumOf_26 : decode cX1_sumOf 26 = .ok (.invokevirtual 138, 3) := by decide +kernel
theorem dX1_sumOf_29 : decode cX1_sumOf 29 = .ok (.iadd, 1) := by decide +kernel
theorem dX1_sumOf_30 : decode cX1_sumOf 30 = .ok (.istore 4, 2) := by decide +kernel
theorem dX1_sumOf_32 : decode cX1_sumOf 32 = .ok (.iinc 5 1, 3) := by decide +kernel
theorem dX1_sumOf_35 : decode cX1_sumOf 35 = .ok (.goto (-29), 3) := by decide +kernel
theorem dX1_sumOf_38 : decode cX1_sumOf 38 = .ok (.iload 4, 2) := by decide +kernel
theorem dX1_sumOf_40 : decode cX1_sumOf 40 = .ok (.ireturn, 1) := by decide +kernel
theorem dX1_fillSumLeft_0 : decode cX1_fillSumLeft 0 = .ok (.aload_n 0, 1) := by decide +kernel
theorem dX1_fillSumLeft_1 : decode cX1_fillSumLeft 1 = .ok (.getfield 39, 3) := by decide +kernel
theorem dX1_fillSumLeft_4 : decode cX1_fillSumLeft 4 = .ok (.getfield 78, 3) := by decide +kernel
theorem dX1_fillSumLeft_7 : decode cX1_fillSumLeft 7 = .ok (.iconst 1, 1) := by decide +kernel
theorem dX1_fillSumLeft_8 : decode cX1_fillSumLeft 8 = .ok (.isub, 1) := by decide +kernel
theorem dX1_fillSumLeft_9 : decode cX1_fillSumLeft 9 = .ok (.istore_n 1, 1) := by decide +kernel
theorem dX1_fillSumLeft_10 : decode cX1_fillSumLeft 10 = .ok (.iload_n 1, 1) := by decide +kernel
theorem dX1_fillSumLeft_11 : decode cX1_fillSumLeft 11 = .ok (.ifCond .lt 91, 3) := by decide +kernel
theorem dX1_fillSumLeft_14 : decode cX1_fillSumLeft 14 = .ok (.iconst 0, 1) := by decide +kernel
theorem dX1_fillSumLeft_15 : decode cX1_fillSumLeft 15 = .ok (.istore_n 2, 1) := by decide +kernel
theorem dX1_fillSumLeft_16 : decode cX1_fillSumLeft 16 = .ok (.iload_n 2, 1) := by decide +kernel
theorem dX1_fillSumLeft_17 : decode cX1_fillSumLeft 17 = .ok (.aload_n 0, 1) := by decide +kernel
theorem dX1_fillSumLeft_18 : decode cX1_fillSumLeft 18 = .ok (.getfield 39, 3) := by decide +kernel
theorem dX1_fillSumLeft_21 : decode cX1_fillSumLeft 21 = .ok (.getfield 109, 3) := by decide +kernel
theorem dX1_fillSumLeft_24 : decode cX1_fillSumLeft 24 = .ok (.if_icmp .ge 72, 3) := by decide +kernel
theorem dX1_fillSumLeft_27 : decode cX1_fillSumLeft 27 = .ok (.iconst 0, 1) := by decide +kernel
theorem dX1_fillSumLeft_28 : decode cX1_fillSumLeft 28 = .ok (.istore_n 3, 1) := by decide +kernel
theorem dX1_fillSumLeft_29 : decode cX1_fillSumLeft 29 = .ok (.iload_n 1, 1) := by decide +kernel
theorem dX1_fillSumLeft_30 : decode cX1_fillSumLeft 30 = .ok (.iconst 1, 1) := by decide +kernel
theorem dX1_fillSumLeft_31 : decode cX1_fillSumLeft 31 = .ok (.iadd, 1) := by decide +kernel
theorem dX1_fillSumLeft_32 : decode cX1_fillSumLeft 32 = .ok (.aload_n 0, 1) := by decide +kernel
theorem dX1_fillSumLeft_33 : decode cX1_fillSumLeft 33 = .ok (.getfield 39, 3) := by decide +kernel
theorem dX1_fillSumLeft_36 : decode cX1_fillSumLeft 36 = .ok (.getfield 78, 3) := by decide +kernel
theorem dX1_fillSumLeft_39 : decode cX1_fillSumLeft 39 = .ok (.if_icmp .ge 39, 3) := by decide +kernel
theorem dX1_fillSumLeft_42 : decode cX1_fillSumLeft 42 = .ok (.aload_n 0, 1) := by decide +kernel
theorem dX1_fillSumLeft_43 : decode cX1_fillSumLeft 43 = .ok (.iload_n 1, 1) := by decide +kernel
theorem dX1_fillSumLeft_44 : decode cX1_fillSumLeft 44 = .ok (.iconst 1, 1) := by decide +kernel
theorem dX1_fillSumLeft_45 : decode cX1_fillSumLeft 45 = .ok (.iadd, 1) := by decide +kernel
theorem dX1_fillSumLeft_46 : decode cX1_fillSumLeft 46 = .ok (.iload_n 2, 1) := by decide +kernel
theorem dX1_fillSumLeft_47 : decode cX1_fillSumLeft 47 = .ok (.invokevirtual 97, 3) := by decide +kernel
theorem dX1_fillSumLeft_50 : decode cX1_fillSumLeft 50 = .ok (.istore 4, 2) := by decide +kernel
theorem dX1_fillSumLeft_52 : decode cX1_fillSumLeft 52 = .ok (.aload_n 0, 1) := by decide +kernel
theorem dX1_fillSumLeft_53 : decode cX1_fillSumLeft 53 = .ok (.iload_n 1, 1) := by decide +kernel
theorem dX1_fillSumLeft_54 : decode cX1_fillSumLeft 54 = .ok (.iconst 1, 1) := by decide +kernel
theorem dX1_fillSumLeft_55 : decode cX1_fillSumLeft 55 = .ok (.iadd, 1) := by decide +kernel
theorem dX1_fillSumLeft_56 : decode cX1_fillSumLeft 56 = .ok (.iload_n 2, 1) := by decide +kernel
theorem dX1_fillSumLeft_57 : decode cX1_fillSumLeft 57 = .ok (.iload 4, 2) := by decide +kernel
theorem dX1_fillSumLeft_59 : decode cX1_fillSumLeft 59 = .ok (.invokevirtual 105, 3) := by decide +kernel
theorem dX1_fillSumLeft_62 : decode cX1_fillSumLeft 62 = .ok (.aload_n 0, 1) := by decide +kernel
theorem dX1_fillSumLeft_63 : decode cX1_fillSumLeft 63 = .ok (.getfield 21, 3) := by decide +kernel
theorem dX1_fillSumLeft_66 : decode cX1_fillSumLeft 66 = .ok (.iload_n 1, 1) := by decide +kernel
theorem dX1_fillSumLeft_67 : decode cX1_fillSumLeft 67 = .ok (.iconst 1, 1) := by decide +kernel
theorem dX1_fillSumLeft_68 : decode cX1_fillSumLeft 68 = .ok (.iadd, 1) := by decide +kernel
theorem dX1_fillSumLeft_69 : decode cX1_fillSumLeft 69 = .ok (.bipush 24, 2) := by decide +kernel
theorem dX1_fillSumLeft_71 : decode cX1_fillSumLeft 71 = .ok (.imul, 1) := by decide +kernel
theorem dX1_fillSumLeft_72 : decode cX1_fillSumLeft 72 = .ok (.iload 4, 2) := by decide +kernel
theorem dX1_fillSumLeft_74 : decode cX1_fillSumLeft 74 = .ok (.iadd, 1) := by decide +kernel
theorem dX1_fillSumLeft_75 : decode cX1_fillSumLeft 75 = .ok (.iaload, 1) := by decide +kernel
theorem dX1_fillSumLeft_76 : decode cX1_fillSumLeft 76 = .ok (.iadd, 1) := by decide +kernel
theorem dX1_fillSumLeft_77 : decode cX1_fillSumLeft 77 = .ok (.istore_n 3, 1) := by decide +kernel
theorem dX1_fillSumLeft_78 : decode cX1_fillSumLeft 78 = .ok (.aload_n 0, 1) := by decide +kernel
theorem dX1_fillSumLeft_79 : decode cX1_fillSumLeft 79 = .ok (.getfield 21, 3) := by decide +kernel
theorem dX1_fillSumLeft_82 : decode cX1_fillSumLeft 82 = .ok (.iload_n 1, 1) := by decide +kernel
theorem dX1_fillSumLeft_83 : decode cX1_fillSumLeft 83 = .ok (.bipush 24, 2) := by decide +kernel
theorem dX1_fillSumLeft_85 : decode cX1_fillSumLeft 85 = .ok (.imul, 1) := by decide +kernel
theorem dX1_fillSumLeft_86 : decode cX1_fillSumLeft 86 = .ok (.iload_n 2, 1) := by decide +kernel
theorem dX1_fillSumLeft_87 : decode cX1_fillSumLeft 87 = .ok (.iadd, 1) := by decide +kernel
theorem dX1_fillSumLeft_88 : decode cX1_fillSumLeft 88 = .ok (.iload_n 3, 1) := by decide +kernel
theorem dX1_fillSumLeft_89 : decode cX1_fillSumLeft 89 = .ok (.iastore, 1) := by decide +kernel
theorem dX1_fillSumLeft_90 : decode cX1_fillSumLeft 90 = .ok (.iinc 2 1, 3) := by decide +kernel
theorem dX1_fillSumLeft_93 : decode cX1_fillSumLeft 93 = .ok (.goto (-77), 3) := by decide +kernel
theorem dX1_fillSumLeft_96 : decode cX1_fillSumLeft 96 = .ok (.iinc 1 (-1), 3) := by decide +kernel
theorem dX1_fillSumLeft_99 : decode cX1_fillSumLeft 99 = .ok (.goto (-89), 3) := by decide +kernel
theorem dX1_fillSumLeft_102 : decode cX1_fillSumLeft 102 = .ok (.return_, 1) := by decide +kernel
theorem dX1_firstOfMost_0 : decode cX1_firstOfMost 0 = .ok (.iconst 0, 1) := by decide +kernel
theorem dX1_firstOfMost_1 : decode cX1_firstOfMost 1 = .ok (.istore_n 3, 1) := by decide +kernel
theorem dX1_firstOfMost_2 : decode cX1_firstOfMost 2 = .ok (.ldc 56, 2) := by decide +kernel
theorem dX1_firstOfMost_4 : decode cX1_firstOfMost 4 = .ok (.istore 4, 2) := by decide +kernel
theorem dX1_firstOfMost_6 : decode cX1_firstOfMost 6 = .ok (.iconst 0, 1) := by decide +kernel
theorem dX1_firstOfMost_7 : decode cX1_firstOfMost 7 = .ok (.istore 5, 2) := by decide +kernel
theorem dX1_firstOfMost_9 : decode cX1_firstOfMost 9 = .ok (.iload 5, 2) := by decide +kernel
theorem dX1_firstOfMost_11 : decode cX1_firstOfMost 11 = .ok (.aload_n 0, 1) := by decide +kernel
theorem dX1_firstOfMost_12 : decode cX1_firstOfMost 12 = .ok (.getfield 39, 3) := by decide +kernel
theorem dX1_firstOfMost_15 : decode cX1_firstOfMost 15 = .ok (.getfield 109, 3) := by decide +kernel
theorem dX1_firstOfMost_18 : decode cX1_firstOfMost 18 = .ok (.if_icmp .ge 46, 3) := by decide +kernel
theorem dX1_firstOfMost_21 : decode cX1_firstOfMost 21 = .ok (.aload_n 0, 1) := by decide +kernel
theorem dX1_firstOfMost_22 : decode cX1_firstOfMost 22 = .ok (.iload_n 1, 1) := by decide +kernel
theorem dX1_firstOfMost_23 : decode cX1_firstOfMost 23 = .ok (.iload_n 2, 1) := by decide +kernel
theorem dX1_firstOfMost_24 : decode cX1_firstOfMost 24 = .ok (.iload 5, 2) := by decide +kernel
theorem dX1_firstOfMost_26 : decode cX1_firstOfMost 26 = .ok (.invokevirtual 105, 3) := by decide +kernel
theorem dX1_firstOfMost_29 : decode cX1_firstOfMost 29 = .ok (.aload_n 0, 1) := by decide +kernel
theorem dX1_firstOfMost_30 : decode cX1_firstOfMost 30 = .ok (.getfield 21, 3) := by decide +kernel
theorem dX1_firstOfMost_33 : decode cX1_firstOfMost 33 = .ok (.iload_n 1, 1) := by decide +kernel
theorem dX1_firstOfMost_34 : decode cX1_firstOfMost 34 = .ok (.bipush 24, 2) := by decide +kernel
theorem dX1_firstOfMost_36 : decode cX1_firstOfMost 36 = .ok (.imul, 1) := by decide +kernel
theorem dX1_firstOfMost_37 : decode cX1_firstOfMost 37 = .ok (.iload 5, 2) := by decide +kernel
theorem dX1_firstOfMost_39 : decode cX1_firstOfMost 39 = .ok (.iadd, 1) := by decide +kernel
theorem dX1_firstOfMost_40 : decode cX1_firstOfMost 40 = .ok (.iaload, 1) := by decide +kernel
theorem dX1_firstOfMost_41 : decode cX1_firstOfMost 41 = .ok (.iadd, 1) := by decide +kernel
theorem dX1_firstOfMost_42 : decode cX1_firstOfMost 42 = .ok (.istore 6, 2) := by decide +kernel
theorem dX1_firstOfMost_44 : decode cX1_firstOfMost 44 = .ok (.iload 6, 2) := by decide +kernel
theorem dX1_firstOfMost_46 : decode cX1_firstOfMost 46 = .ok (.iload 4, 2) := by decide +kernel
theorem dX1_firstOfMost_48 : decode cX1_firstOfMost 48 = .ok (.if_icmp .le 10, 3) := by decide +kernel
theorem dX1_firstOfMost_51 : decode cX1_firstOfMost 51 = .ok (.iload 6, 2) := by decide +kernel
theorem dX1_firstOfMost_53 : decode cX1_firstOfMost 53 = .ok (.istore 4, 2) := by decide +kernel
theorem dX1_firstOfMost_55 : decode cX1_firstOfMost 55 = .ok (.iload 5, 2) := by decide +kernel
theorem dX1_firstOfMost_57 : decode cX1_firstOfMost 57 = .ok (.istore_n 3, 1) := by decide +kernel
theorem dX1_firstOfMost_58 : decode cX1_firstOfMost 58 = .ok (.iinc 5 1, 3) := by decide +kernel
theorem dX1_firstOfMost_61 : decode cX1_firstOfMost 61 = .ok (.goto (-52), 3) := by decide +kernel
theorem dX1_firstOfMost_64 : decode cX1_firstOfMost 64 = .ok (.iload_n 3, 1) := by decide +kernel
theorem dX1_firstOfMost_65 : decode cX1_firstOfMost 65 = .ok (.ireturn, 1) := by decide +kernel
theorem dX2_init_0 : decode cX2_init 0 = .ok (.aload_n 0, 1) := by decide +kernel
theorem dX2_init_1 : decode cX2_init 1 = .ok (.invokespecial 3, 3) := by decide +kernel
theorem dX2_init_4 : decode cX2_init 4 = .ok (.aload_n 0, 1) := by decide +kernel
theorem dX2_init_5 : decode cX2_init 5 = .ok (.sipush 1000, 3) := by decide +kernel
theorem dX2_init_8 : decode cX2_init 8 = .ok (.newarray .int, 2) := by decide +kernel
theorem dX2_init_10 : decode cX2_init 10 = .ok (.putfield 9, 3) := by decide +kernel
theorem dX2_init_13 : decode cX2_init 13 = .ok (.aload_n 0, 1) := by decide +kernel
theorem dX2_init_14 : decode cX2_init 14 = .ok (.bipush 32, 2) := by decide +kernel
theorem dX2_init_16 : decode cX2_init 16 = .ok (.newarray .int, 2) := by decide +kernel
theorem dX2_init_18 : decode cX2_init 18 = .ok (.putfield 15, 3) := by decide +kernel
theorem dX2_init_21 : decode cX2_init 21 = .ok (.aload_n 0, 1) := by decide +kernel
theorem dX2_init_22 : decode cX2_init 22 = .ok (.iconst 5, 1) := by decide +kernel
theorem dX2_init_23 : decode cX2_init 23 = .ok (.newarray .int, 2) := by decide +kernel
theorem dX2_init_25 : decode cX2_init 25 = .ok (.putfield 18, 3) := by decide +kernel
theorem dX2_init_28 : decode cX2_init 28 = .ok (.return_, 1) := by decide +kernel
theorem dX2_put_0 : decode cX2_put 0 = .ok (.aload_n 0, 1) := by decide +kernel
theorem dX2_put_1 : decode cX2_put 1 = .ok (.getfield 21, 3) := by decide +kernel
theorem dX2_put_4 : decode cX2_put 4 = .ok (.sipush 1000, 3) := by decide +kernel
theorem dX2_put_7 : decode cX2_put 7 = .ok (.if_icmp .ge 23, 3) := by decide +kernel
theorem dX2_put_10 : decode cX2_put 10 = .ok (.aload_n 0, 1) := by decide +kernel
theorem dX2_put_11 : decode cX2_put 11 = .ok (.getfield 9, 3) := by decide +kernel
theorem dX2_put_14 : decode cX2_put 14 = .ok (.aload_n 0, 1) := by decide +kernel
theorem dX2_put_15 : decode cX2_put 15 = .ok (.getfield 21, 3) := by decide +kernel
theorem dX2_put_18 : decode cX2_put 18 = .ok (.iload_n 1, 1) := by decide +kernel
theorem dX2_put_19 : decode cX2_put 19 = .ok (.iastore, 1) := by decide +kernel
theorem dX2_put_20 : decode cX2_put 20 = .ok (.aload_n 0, 1) := by decide +kernel
theorem dX2_put_21 : decode cX2_put 21 = .ok (.dup, 1) := by decide +kernel
theorem dX2_put_22 : decode cX2_put 22 = .ok (.getfield 21, 3) := by decide +kernel
theorem dX2_put_25 : decode cX2_put 25 = .ok (.iconst 1, 1) := by decide +kernel
theorem dX2_put_26 : decode cX2_put 26 = .ok (.iadd, 1) := by decide +kernel
theorem dX2_put_27 : decode cX2_put 27 = .ok (.putfield 21, 3) := by decide +kernel
theorem dX2_put_30 : decode cX2_put 30 = .ok (.return_, 1) := by decide +kernel
theorem dX2_workOut_0 : decode cX2_workOut 0 = .ok (.iconst 0, 1) := by decide +kernel
theorem dX2_workOut_1 : decode cX2_workOut 1 = .ok (.istore_n 3, 1) := by decide +kernel
theorem dX2_workOut_2 : decode cX2_workOut 2 = .ok (.iload_n 1, 1) := by decide +kernel
theorem dX2_workOut_3 : decode cX2_workOut 3 = .ok (.istore 4, 2) := by decide +kernel
theorem dX2_workOut_5 : decode cX2_workOut 5 = .ok (.iload 4, 2) := by decide +kernel
theorem dX2_workOut_7 : decode cX2_workOut 7 = .ok (.ifCond .lt 176, 3) := by decide +kernel
theorem dX2_workOut_10 : decode cX2_workOut 10 = .ok (.iload 4, 2) := by decide +kernel
theorem dX2_workOut_12 : decode cX2_workOut 12 = .ok (.iload_n 2, 1) := by decide +kernel
theorem dX2_workOut_13 : decode cX2_workOut 13 = .ok (.if_icmp .ge 170, 3) := by decide +kernel
theorem dX2_workOut_16 : decode cX2_workOut 16 = .ok (.iload 4, 2) := by decide +kernel
theorem dX2_workOut_18 : decode cX2_workOut 18 = .ok (.aload_n 0, 1) := by decide +kernel
theorem dX2_workOut_19 : decode cX2_workOut 19 = .ok (.getfield 21, 3) := by decide +kernel
theorem dX2_workOut_22 : decode cX2_workOut 22 = .ok (.if_icmp .ge 161, 3) := by decide +kernel
theorem dX2_workOut_25 : decode cX2_workOut 25 = .ok (.aload_n 0, 1) := by decide +kernel
theorem dX2_workOut_26 : decode cX2_workOut 26 = .ok (.getfield 9, 3) := by decide +kernel
theorem dX2_workOut_29 : decode cX2_workOut 29 = .ok (.iload 4, 2) := by decide +kernel
theorem dX2_workOut_31 : decode cX2_workOut 31 = .ok (.iaload, 1) := by decide +kernel
theorem dX2_workOut_32 : decode cX2_workOut 32 = .ok (.istore 5, 2) := by decide +kernel
theorem dX2_workOut_34 : decode cX2_workOut 34 = .ok (.iload 5, 2) := by decide +kernel
theorem dX2_workOut_36 : decode cX2_workOut 36 = .ok (.sipush 20000, 3) := by decide +kernel
theorem dX2_workOut_39 : decode cX2_workOut 39 = .ok (.if_icmp .ge 55, 3) := by decide +kernel
theorem dX2_workOut_42 : decode cX2_workOut 42 = .ok (.iload_n 3, 1) := by decide +kernel
theorem dX2_workOut_43 : decode cX2_workOut 43 = .ok (.bipush 32, 2) := by decide +kernel
theorem dX2_workOut_45 : decode cX2_workOut 45 = .ok (.if_icmp .ge 49, 3) := by decide +kernel
theorem dX2_workOut_48 : decode cX2_workOut 48 = .ok (.aload_n 0, 1) := by decide +kernel
theorem dX2_workOut_49 : decode cX2_workOut 49 = .ok (.getfield 15, 3) := by decide +kernel
theorem dX2_workOut_52 : decode cX2_workOut 52 = .ok (.iload_n 3, 1) := by decide +kernel
theorem dX2_workOut_53 : decode cX2_workOut 53 = .ok (.iload 5, 2) := by decide +kernel
theorem dX2_workOut_55 : decode cX2_workOut 55 = .ok (.sipush 10000, 3) := by decide +kernel
theorem dX2_workOut_58 : decode cX2_workOut 58 = .ok (.if_icmp .ge 8, 3) := by decide +kernel
theorem dX2_workOut_61 : decode cX2_workOut 61 = .ok (.iload 5, 2) := by decide +kernel
theorem dX2_workOut_63 : decode cX2_workOut 63 = .ok (.goto 24, 3) := by decide +kernel
theorem dX2_workOut_66 : decode cX2_workOut 66 = .ok (.aload_n 0, 1) := by decide +kernel
theorem dX2_workOut_67 : decode cX2_workOut 67 = .ok (.getfield 18, 3) := by decide +kernel
theorem dX2_workOut_70 : decode cX2_workOut 70 = .ok (.iload 5, 2) := by decide +kernel
theorem dX2_workOut_72 : decode cX2_workOut 72 = .ok (.sipush 10000, 3) := by decide +kernel
theorem dX2_workOut_75 : decode cX2_workOut 75 = .ok (.isub, 1) := by decide +kernel
theorem dX2_workOut_76 : decode cX2_workOut 76 = .ok (.aload_n 0, 1) := by decide +kernel
theorem dX2_workOut_77 : decode cX2_workOut 77 = .ok (.getfield 18, 3) := by decide +kernel
theorem dX2_workOut_80 : decode cX2_workOut 80 = .ok (.arraylength, 1) := by decide +kernel
theorem dX2_workOut_81 : decode cX2_workOut 81 = .ok (.iconst 1, 1) := by decide +kernel
theorem dX2_workOut_82 : decode cX2_workOut 82 = .ok (.isub, 1) := by decide +kernel
theorem dX2_workOut_83 : decode cX2_workOut 83 = .ok (.invokestatic 25, 3) := by decide +kernel
theorem dX2_workOut_86 : decode cX2_workOut 86 = .ok (.iaload, 1) := by decide +kernel
theorem dX2_workOut_87 : decode cX2_workOut 87 = .ok (.iastore, 1) := by decide +kernel
theorem dX2_workOut_88 : decode cX2_workOut 88 = .ok (.iinc 3 1, 3) := by decide +kernel
theorem dX2_workOut_91 : decode cX2_workOut 91 = .ok (.goto 86, 3) := by decide +kernel
theorem dX2_workOut_94 : decode cX2_workOut 94 = .ok (.iload 5, 2) := by decide +kernel
theorem dX2_workOut_96 : decode cX2_workOut 96 = .ok (.sipush 20000, 3) := by decide +kernel
theorem dX2_workOut_99 : decode cX2_workOut 99 = .ok (.if_icmp .ne 35, 3) := by decide +kernel
theorem dX2_workOut_102 : decode cX2_workOut 102 = .ok (.iload_n 3, 1) := by decide +kernel
theorem dX2_workOut_103 : decode cX2_workOut 103 = .ok (.iconst 1, 1) := by decide +kernel
theorem dX2_workOut_104 : decode cX2_workOut 104 = .ok (.if_icmp .lt 30, 3) := by decide +kernel
theorem dX2_workOut_107 : decode cX2_workOut 107 = .ok (.aload_n 0, 1) := by decide +kernel
theorem dX2_workOut_108 : decode cX2_workOut 108 = .ok (.getfield 15, 3) := by decide +kernel
theorem dX2_workOut_111 : decode cX2_workOut 111 = .ok (.iload_n 3, 1) := by decide +kernel
theorem dX2_workOut_112 : decode cX2_workOut 112 = .ok (.iconst 1, 1) := by decide +kernel
theorem dX2_workOut_113 : decode cX2_workOut 113 = .ok (.isub, 1) := by decide +kernel
theorem dX2_workOut_114 : decode cX2_workOut 114 = .ok (.aload_n 0, 1) := by decide +kernel
theorem dX2_workOut_115 : decode cX2_workOut 115 = .ok (.getfield 15, 3) := by decide +kernel
theorem dX2_workOut_118 : decode cX2_workOut 118 = .ok (.iload_n 3, 1) := by decide +kernel
theorem dX2_workOut_119 : decode cX2_workOut 119 = .ok (.iconst 1, 1) := by decide +kernel
theorem dX2_workOut_120 : decode cX2_workOut 120 = .ok (.isub, 1) := by decide +kernel
theorem dX2_workOut_121 : decode cX2_workOut 121 = .ok (.iaload, 1) := by decide +kernel
theorem dX2_workOut_122 : decode cX2_workOut 122 = .ok (.ifCond .ne 7, 3) := by decide +kernel
theorem dX2_workOut_125 : decode cX2_workOut 125 = .ok (.iconst 1, 1) := by decide +kernel
theorem dX2_workOut_126 : decode cX2_workOut 126 = .ok (.goto 4, 3) := by decide +kernel
theorem dX2_workOut_129 : decode cX2_workOut 129 = .ok (.iconst 0, 1) := by decide +kernel
theorem dX2_workOut_130 : decode cX2_workOut 130 = .ok (.iastore, 1) := by decide +kernel
theorem dX2_workOut_131 : decode cX2_workOut 131 = .ok (.goto 46, 3) := by decide +kernel
theorem dX2_workOut_134 : decode cX2_workOut 134 = .ok (.iload 5, 2) := by decide +kernel
theorem dX2_workOut_136 : decode cX2_workOut 136 = .ok (.sipush 20000, 3) := by decide +kernel
theorem dX2_workOut_139 : decode cX2_workOut 139 = .ok (.if_icmp .le 38, 3) := by decide +kernel
theorem dX2_workOut_142 : decode cX2_workOut 142 = .ok (.iload_n 3, 1) := by decide +kernel
theorem dX2_workOut_143 : decode cX2_workOut 143 = .ok (.iconst 2, 1) := by decide +kernel
theorem dX2_workOut_144 : decode cX2_workOut 144 = .ok (.if_icmp .lt 33, 3) := by decide +kernel
theorem dX2_workOut_147 : decode cX2_workOut 147 = .ok (.iinc 3 (-1), 3) := by decide +kernel
theorem dX2_workOut_150 : decode cX2_workOut 150 = .ok (.aload_n 0, 1) := by decide +kernel
theorem dX2_workOut_151 : decode cX2_workOut 151 = .ok (.getfield 15, 3) := by decide +kernel
theorem dX2_workOut_154 : decode cX2_workOut 154 = .ok (.iload_n 3, 1) := by decide +kernel
theorem dX2_workOut_155 : decode cX2_workOut 155 = .ok (.iconst 1, 1) := by decide +kernel
theorem dX2_workOut_156 : decode cX2_workOut 156 = .ok (.isub, 1) := by decide +kernel
theorem dX2_workOut_157 : decode cX2_workOut 157 = .ok (.iload 5, 2) := by decide +kernel
theorem dX2_workOut_159 : decode cX2_workOut 159 = .ok (.aload_n 0, 1) := by decide +kernel
theorem dX2_workOut_160 : decode cX2_workOut 160 = .ok (.getfield 15, 3) := by decide +kernel
theorem dX2_workOut_163 : decode cX2_workOut 163 = .ok (.iload_n 3, 1) := by decide +kernel
theorem dX2_workOut_164 : decode cX2_workOut 164 = .ok (.iconst 1, 1) := by decide +kernel
theorem dX2_workOut_165 : decode cX2_workOut 165 = .ok (.isub, 1) := by decide +kernel
theorem dX2_workOut_166 : decode cX2_workOut 166 = .ok (.iaload, 1) := by decide +kernel
theorem dX2_workOut_167 : decode cX2_workOut 167 = .ok (.aload_n 0, 1) := by decide +kernel
theorem dX2_workOut_168 : decode cX2_workOut 168 = .ok (.getfield 15, 3) := by decide +kernel
theorem dX2_workOut_171 : decode cX2_workOut 171 = .ok (.iload_n 3, 1) := by decide +kernel
theorem dX2_workOut_172 : decode cX2_workOut 172 = .ok (.iaload, 1) := by decide +kernel
theorem dX2_workOut_173 : decode cX2_workOut 173 = .ok (.invokestatic 31, 3) := by decide +kernel
theorem dX2_workOut_176 : decode cX2_workOut 176 = .ok (.iastore, 1) := by decide +kernel
theorem dX2_workOut_177 : decode cX2_workOut 177 = .ok (.iinc 4 1, 3) := by decide +kernel
theorem dX2_workOut_180 : decode cX2_workOut 180 = .ok (.goto (-175), 3) := by decide +kernel
theorem dX2_workOut_183 : decode cX2_workOut 183 = .ok (.aload_n 0, 1) := by decide +kernel
theorem dX2_workOut_184 : decode cX2_workOut 184 = .ok (.getfield 15, 3) := by decide +kernel
theorem dX2_workOut_187 : decode cX2_workOut 187 = .ok (.iconst 0, 1) := by decide +kernel
theorem dX2_workOut_188 : decode cX2_workOut 188 = .ok (.iaload, 1) := by decide +kernel
theorem dX2_workOut_189 : decode cX2_workOut 189 = .ok (.ireturn, 1) := by decide +kernel
theorem dX2_join_0 : decode cX2_join 0 = .ok (.iload_n 0, 1) := by decide +kernel
theorem dX2_join_1 : decode cX2_join 1 = .ok (.tableswitch 97 20001 20006 #[39, 53, 67, 78, 89, 93], 39) := by decide +kernel
theorem dX2_join_40 : decode cX2_join 40 = .ok (.iload_n 1, 1) := by decide +kernel
theorem dX2_join_41 : decode cX2_join 41 = .ok (.ifCond .eq 11, 3) := by decide +kernel
theorem dX2_join_44 : decode cX2_join 44 = .ok (.iload_n 2, 1) := by decide +kernel
theorem dX2_join_45 : decode cX2_join 45 = .ok (.ifCond .eq 7, 3) := by decide +kernel
theorem dX2_join_48 : decode cX2_join 48 = .ok (.iconst 1, 1) := by decide +kernel
theorem dX2_join_49 : decode cX2_join 49 = .ok (.goto 4, 3) := by decide +kernel
theorem dX2_join_52 : decode cX2_join 52 = .ok (.iconst 0, 1) := by decide +kernel
theorem dX2_join_53 : decode cX2_join 53 = .ok (.ireturn, 1) := by decide +kernel
theorem dX2_join_54 : decode cX2_join 54 = .ok (.iload_n 1, 1) := by decide +kernel
theorem dX2_join_55 : decode cX2_join 55 = .ok (.ifCond .ne 7, 3) := by decide +kernel
theorem dX2_join_58 : decode cX2_join 58 = .ok (.iload_n 2, 1) := by decide +kernel
theorem dX2_join_59 : decode cX2_join 59 = .ok (.ifCond .eq 7, 3) := by decide +kernel
theorem dX2_join_62 : decode cX2_join 62 = .ok (.iconst 1, 1) := by decide +kernel
theorem dX2_join_63 : decode cX2_join 63 = .ok (.goto 4, 3) := by decide +kernel
theorem dX2_join_66 : decode cX2_join 66 = .ok (.iconst 0, 1) := by decide +kernel
theorem dX2_join_67 : decode cX2_join 67 = .ok (.ireturn, 1) := by decide +kernel
theorem dX2_join_68 : decode cX2_join 68 = .ok (.iload_n 1, 1) := by decide +kernel
theorem dX2_join_69 : decode cX2_join 69 = .ok (.iload_n 2, 1) := by decide +kernel
theorem dX2_join_70 : decode cX2_join 70 = .ok (.if_icmp .ge 7, 3) := by decide +kernel
theorem dX2_join_73 : decode cX2_join 73 = .ok (.iconst 1, 1) := by decide +kernel
theorem dX2_join_74 : decode cX2_join 74 = .ok (.goto 4, 3) := by decide +kernel
theorem dX2_join_77 : decode cX2_join 77 = .ok (.iconst 0, 1) := by decide +kernel
theorem dX2_join_78 : decode cX2_join 78 = .ok (.ireturn, 1) := by decide +kernel
theorem dX2_join_79 : decode cX2_join 79 = .ok (.iload_n 1, 1) := by decide +kernel
theorem dX2_join_80 : decode cX2_join 80 = .ok (.iload_n 2, 1) := by decide +kernel
theorem dX2_join_81 : decode cX2_join 81 = .ok (.if_icmp .ne 7, 3) := by decide +kernel
theorem dX2_join_84 : decode cX2_join 84 = .ok (.iconst 1, 1) := by decide +kernel
theorem dX2_join_85 : decode cX2_join 85 = .ok (.goto 4, 3) := by decide +kernel
theorem dX2_join_88 : decode cX2_join 88 = .ok (.iconst 0, 1) := by decide +kernel
theorem dX2_join_89 : decode cX2_join 89 = .ok (.ireturn, 1) := by decide +kernel
theorem dX2_join_90 : decode cX2_join 90 = .ok (.iload_n 1, 1) := by decide +kernel
theorem dX2_join_91 : decode cX2_join 91 = .ok (.iload_n 2, 1) := by decide +kernel
theorem dX2_join_92 : decode cX2_join 92 = .ok (.iadd, 1) := by decide +kernel
theorem dX2_join_93 : decode cX2_join 93 = .ok (.ireturn, 1) := by decide +kernel
theorem dX2_join_94 : decode cX2_join 94 = .ok (.iload_n 1, 1) := by decide +kernel
theorem dX2_join_95 : decode cX2_join 95 = .ok (.iload_n 2, 1) := by decide +kernel
theorem dX2_join_96 : decode cX2_join 96 = .ok (.isub, 1) := by decide +kernel
theorem dX2_join_97 : decode cX2_join 97 = .ok (.ireturn, 1) := by decide +kernel
theorem dX2_join_98 : decode cX2_join 98 = .ok (.iload_n 1, 1) := by decide +kernel
theorem dX2_join_99 : decode cX2_join 99 = .ok (.iload_n 2, 1) := by decide +kernel
theorem dX2_join_100 : decode cX2_join 100 = .ok (.imul, 1) := by decide +kernel
theorem dX2_join_101 : decode cX2_join 101 = .ok (.ireturn, 1) := by decide +kernel
theorem dX3_init_0 : decode cX3_init 0 = .ok (.aload_n 0, 1) := by decide +kernel
theorem dX3_init_1 : decode cX3_init 1 = .ok (.invokespecial 3, 3) := by decide +kernel
theorem dX3_init_4 : decode cX3_init 4 = .ok (.aload_n 0, 1) := by decide +kernel
theorem dX3_init_5 : decode cX3_init 5 = .ok (.new 9, 3) := by decide +kernel
theorem dX3_init_8 : decode cX3_init 8 = .ok (.dup, 1) := by decide +kernel
theorem dX3_init_9 : decode cX3_init 9 = .ok (.invokespecial 11, 3) := by decide +kernel
theorem dX3_init_12 : decode cX3_init 12 = .ok (.putfield 12, 3) := by decide +kernel
theorem dX3_init_15 : decode cX3_init 15 = .ok (.aload_n 0, 1) := by decide +kernel
theorem dX3_init_16 : decode cX3_init 16 = .ok (.bipush 16, 2) := by decide +kernel
theorem dX3_init_18 : decode cX3_init 18 = .ok (.newarray .int, 2) := by decide +kernel
theorem dX3_init_20 : decode cX3_init 20 = .ok (.putfield 18, 3) := by decide +kernel
theorem dX3_init_23 : decode cX3_init 23 = .ok (.aload_n 0, 1) := by decide +kernel
theorem dX3_init_24 : decode cX3_init 24 = .ok (.bipush 40, 2) := by decide +kernel
theorem dX3_init_26 : decode cX3_init 26 = .ok (.newarray .int, 2) := by decide +kernel
theorem dX3_init_28 : decode cX3_init 28 = .ok (.putfield 22, 3) := by decide +kernel
theorem dX3_init_31 : decode cX3_init 31 = .ok (.return_, 1) := by decide +kernel
theorem dX3_begin_0 : decode cX3_begin 0 = .ok (.aload_n 0, 1) := by decide +kernel
theorem dX3_begin_1 : decode cX3_begin 1 = .ok (.getfield 12, 3) := by decide +kernel
theorem dX3_begin_4 : decode cX3_begin 4 = .ok (.aload_n 1, 1) := by decide +kernel
theorem dX3_begin_5 : decode cX3_begin 5 = .ok (.invokevirtual 25, 3) := by decide +kernel
theorem dX3_begin_8 : decode cX3_begin 8 = .ok (.aload_n 0, 1) := by decide +kernel
theorem dX3_begin_9 : decode cX3_begin 9 = .ok (.iconst 0, 1) := by decide +kernel
theorem dX3_begin_10 : decode cX3_begin 10 = .ok (.putfield 29, 3) := by decide +kernel
theorem dX3_begin_13 : decode cX3_begin 13 = .ok (.aload_n 0, 1) := by decide +kernel
theorem dX3_begin_14 : decode cX3_begin 14 = .ok (.iconst 0, 1) := by decide +kernel
theorem dX3_begin_15 : decode cX3_begin 15 = .ok (.putfield 33, 3) := by decide +kernel
theorem dX3_begin_18 : decode cX3_begin 18 = .ok (.return_, 1) := by decide +kernel
theorem dX3_copy_0 : decode cX3_copy 0 = .ok (.aload_n 0, 1) := by decide +kernel
theorem dX3_copy_1 : decode cX3_copy 1 = .ok (.getfield 12, 3) := by decide +kernel
theorem dX3_copy_4 : decode cX3_copy 4 = .ok (.aload_n 1, 1) := by decide +kernel
theorem dX3_copy_5 : decode cX3_copy 5 = .ok (.getfield 12, 3) := by decide +kernel
theorem dX3_copy_8 : decode cX3_copy 8 = .ok (.invokevirtual 37, 3) := by decide +kernel
theorem dX3_copy_11 : decode cX3_copy 11 = .ok (.aload_n 1, 1) := by decide +kernel
theorem dX3_copy_12 : decode cX3_copy 12 = .ok (.getfield 18, 3) := by decide +kernel
theorem dX3_copy_15 : decode cX3_copy 15 = .ok (.iconst 0, 1) := by decide +kernel
theorem dX3_copy_16 : decode cX3_copy 16 = .ok (.aload_n 0, 1) := by decide +kernel
theorem dX3_copy_17 : decode cX3_copy 17 = .ok (.getfield 18, 3) := by decide +kernel
theorem dX3_copy_20 : decode cX3_copy 20 = .ok (.iconst 0, 1) := by decide +kernel
theorem dX3_copy_21 : decode cX3_copy 21 = .ok (.aload_n 0, 1) := by decide +kernel
theorem dX3_copy_22 : decode cX3_copy 22 = .ok (.getfield 18, 3) := by decide +kernel
theorem dX3_copy_25 : decode cX3_copy 25 = .ok (.arraylength, 1) := by decide +kernel
theorem dX3_copy_26 : decode cX3_copy 26 = .ok (.invokestatic 41, 3) := by decide +kernel
theorem dX3_copy_29 : decode cX3_copy 29 = .ok (.aload_n 1, 1) := by decide +kernel
theorem dX3_copy_30 : decode cX3_copy 30 = .ok (.getfield 22, 3) := by decide +kernel
theorem dX3_copy_33 : decode cX3_copy 33 = .ok (.iconst 0, 1) := by decide +kernel
theorem dX3_copy_34 : decode cX3_copy 34 = .ok (.aload_n 0, 1) := by decide +kernel
theorem dX3_copy_35 : decode cX3_copy 35 = .ok (.getfield 22, 3) := by decide +kernel
theorem dX3_copy_38 : decode cX3_copy 38 = .ok (.iconst 0, 1) := by decide +kernel
theorem dX3_copy_39 : decode cX3_copy 39 = .ok (.aload_n 0, 1) := by decide +kernel
theorem dX3_copy_40 : decode cX3_copy 40 = .ok (.getfield 22, 3) := by decide +kernel
theorem dX3_copy_43 : decode cX3_copy 43 = .ok (.arraylength, 1) := by decide +kernel
theorem dX3_copy_44 : decode cX3_copy 44 = .ok (.invokestatic 41, 3) := by decide +kernel
theorem dX3_copy_47 : decode cX3_copy 47 = .ok (.aload_n 0, 1) := by decide +kernel
theorem dX3_copy_48 : decode cX3_copy 48 = .ok (.aload_n 1, 1) := by decide +kernel
theorem dX3_copy_49 : decode cX3_copy 49 = .ok (.getfield 29, 3) := by decide +kernel
theorem dX3_copy_52 : decode cX3_copy 52 = .ok (.putfield 29, 3) := by decide +kernel
theorem dX3_copy_55 : decode cX3_copy 55 = .ok (.aload_n 0, 1) := by decide +kernel
theorem dX3_copy_56 : decode cX3_copy 56 = .ok (.aload_n 1, 1) := by decide +kernel
theorem dX3_copy_57 : decode cX3_copy 57 = .ok (.getfield 33, 3) := by decide +kernel
theorem dX3_copy_60 : decode cX3_copy 60 = .ok (.putfield 33, 3) := by decide +kernel
theorem dX3_copy_63 : decode cX3_copy 63 = .ok (.return_, 1) := by decide +kernel
theorem dX3_takeDown_0 : decode cX3_takeDown 0 = .ok (.aload_n 0, 1) := by decide +kernel
theorem dX3_takeDown_1 : decode cX3_takeDown 1 = .ok (.getfield 33, 3) := by decide +kernel
theorem dX3_takeDown_4 : decode cX3_takeDown 4 = .ok (.bipush 10, 2) := by decide +kernel
theorem dX3_takeDown_6 : decode cX3_takeDown 6 = .ok (.if_icmp .lt 5, 3) := by decide +kernel
theorem dX3_takeDown_9 : decode cX3_takeDown 9 = .ok (.iconst 0, 1) := by decide +kernel
theorem dX3_takeDown_10 : decode cX3_takeDown 10 = .ok (.ireturn, 1) := by decide +kernel
theorem dX3_takeDown_11 : decode cX3_takeDown 11 = .ok (.aload_n 0, 1) := by decide +kernel
theorem dX3_takeDown_12 : decode cX3_takeDown 12 = .ok (.getfield 33, 3) := by decide +kernel
theorem dX3_takeDown_15 : decode cX3_takeDown 15 = .ok (.iconst 4, 1) := by decide +kernel
theorem dX3_takeDown_16 : decode cX3_takeDown 16 = .ok (.imul, 1) := by decide +kernel
theorem dX3_takeDown_17 : decode cX3_takeDown 17 = .ok (.istore 5, 2) := by decide +kernel
theorem dX3_takeDown_19 : decode cX3_takeDown 19 = .ok (.aload_n 0, 1) := by decide +kernel
theorem dX3_takeDown_20 : decode cX3_takeDown 20 = .ok (.getfield 22, 3) := by decide +kernel
theorem dX3_takeDown_23 : decode cX3_takeDown 23 = .ok (.iload 5, 2) := by decide +kernel
theorem dX3_takeDown_25 : decode cX3_takeDown 25 = .ok (.iload_n 1, 1) := by decide +kernel
theorem dX3_takeDown_26 : decode cX3_takeDown 26 = .ok (.iastore, 1) := by decide +kernel
theorem dX3_takeDown_27 : decode cX3_takeDown 27 = .ok (.aload_n 0, 1) := by decide +kernel
theorem dX3_takeDown_28 : decode cX3_takeDown 28 = .ok (.getfield 22, 3) := by decide +kernel
theorem dX3_takeDown_31 : decode cX3_takeDown 31 = .ok (.iload 5, 2) := by decide +kernel
theorem dX3_takeDown_33 : decode cX3_takeDown 33 = .ok (.iconst 1, 1) := by decide +kernel
theorem dX3_takeDown_34 : decode cX3_takeDown 34 = .ok (.iadd, 1) := by decide +kernel
theorem dX3_takeDown_35 : decode cX3_takeDown 35 = .ok (.iload_n 2, 1) := by decide +kernel
theorem dX3_takeDown_36 : decode cX3_takeDown 36 = .ok (.iastore, 1) := by decide +kernel
theorem dX3_takeDown_37 : decode cX3_takeDown 37 = .ok (.aload_n 0, 1) := by decide +kernel
theorem dX3_takeDown_38 : decode cX3_takeDown 38 = .ok (.getfield 22, 3) := by decide +kernel
theorem dX3_takeDown_41 : decode cX3_takeDown 41 = .ok (.iload 5, 2) := by decide +kernel
theorem dX3_takeDown_43 : decode cX3_takeDown 43 = .ok (.iconst 2, 1) := by decide +kernel
theorem dX3_takeDown_44 : decode cX3_takeDown 44 = .ok (.iadd, 1) := by decide +kernel
theorem dX3_takeDown_45 : decode cX3_takeDown 45 = .ok (.iload_n 3, 1) := by decide +kernel
theorem dX3_takeDown_46 : decode cX3_takeDown 46 = .ok (.iastore, 1) := by decide +kernel
theorem dX3_takeDown_47 : decode cX3_takeDown 47 = .ok (.aload_n 0, 1) := by decide +kernel
theorem dX3_takeDown_48 : decode cX3_takeDown 48 = .ok (.getfield 22, 3) := by decide +kernel
theorem dX3_takeDown_51 : decode cX3_takeDown 51 = .ok (.iload 5, 2) := by decide +kernel
theorem dX3_takeDown_53 : decode cX3_takeDown 53 = .ok (.iconst 3, 1) := by decide +kernel
theorem dX3_takeDown_54 : decode cX3_takeDown 54 = .ok (.iadd, 1) := by decide +kernel
theorem dX3_takeDown_55 : decode cX3_takeDown 55 = .ok (.iload 4, 2) := by decide +kernel
theorem dX3_takeDown_57 : decode cX3_takeDown 57 = .ok (.ifCond .eq 7, 3) := by decide +kernel
theorem dX3_takeDown_60 : decode cX3_takeDown 60 = .ok (.iconst 1, 1) := by decide +kernel
theorem dX3_takeDown_61 : decode cX3_takeDown 61 = .ok (.goto 4, 3) := by decide +kernel
theorem dX3_takeDown_64 : decode cX3_takeDown 64 = .ok (.iconst 0, 1) := by decide +kernel
theorem dX3_takeDown_65 : decode cX3_takeDown 65 = .ok (.iastore, 1) := by decide +kernel
theorem dX3_takeDown_66 : decode cX3_takeDown 66 = .ok (.aload_n 0, 1) := by decide +kernel
theorem dX3_takeDown_67 : decode cX3_takeDown 67 = .ok (.dup, 1) := by decide +kernel
theorem dX3_takeDown_68 : decode cX3_takeDown 68 = .ok (.getfield 33, 3) := by decide +kernel
theorem dX3_takeDown_71 : decode cX3_takeDown 71 = .ok (.iconst 1, 1) := by decide +kernel
theorem dX3_takeDown_72 : decode cX3_takeDown 72 = .ok (.iadd, 1) := by decide +kernel
theorem dX3_takeDown_73 : decode cX3_takeDown 73 = .ok (.putfield 33, 3) := by decide +kernel
theorem dX3_takeDown_76 : decode cX3_takeDown 76 = .ok (.iconst 1, 1) := by decide +kernel
theorem dX3_takeDown_77 : decode cX3_takeDown 77 = .ok (.ireturn, 1) := by decide +kernel
theorem dX3_agrees_0 : decode cX3_agrees 0 = .ok (.iconst 0, 1) := by decide +kernel
theorem dX3_agrees_1 : decode cX3_agrees 1 = .ok (.istore_n 3, 1) := by decide +kernel
theorem dX3_agrees_2 : decode cX3_agrees 2 = .ok (.iload_n 3, 1) := by decide +kernel
theorem dX3_agrees_3 : decode cX3_agrees 3 = .ok (.aload_n 0, 1) := by decide +kernel
theorem dX3_agrees_4 : decode cX3_agrees 4 = .ok (.getfield 33, 3) := by decide +kernel
theorem dX3_agrees_7 : decode cX3_agrees 7 = .ok (.if_icmp .ge 86, 3) := by decide +kernel
theorem dX3_agrees_10 : decode cX3_agrees 10 = .ok (.iload_n 3, 1) := by decide +kernel
theorem dX3_agrees_11 : decode cX3_agrees 11 = .ok (.bipush 10, 2) := by decide +kernel
theorem dX3_agrees_13 : decode cX3_agrees 13 = .ok (.if_icmp .ge 80, 3) := by decide +kernel
theorem dX3_agrees_16 : decode cX3_agrees 16 = .ok (.iload_n 3, 1) := by decide +kernel
theorem dX3_agrees_17 : decode cX3_agrees 17 = .ok (.iconst 4, 1) := by decide +kernel
theorem dX3_agrees_18 : decode cX3_agrees 18 = .ok (.imul, 1) := by decide +kernel
theorem dX3_agrees_19 : decode cX3_agrees 19 = .ok (.istore 4, 2) := by decide +kernel
theorem dX3_agrees_21 : decode cX3_agrees 21 = .ok (.aload_n 1, 1) := by decide +kernel
theorem dX3_agrees_22 : decode cX3_agrees 22 = .ok (.aload_n 0, 1) := by decide +kernel
theorem dX3_agrees_23 : decode cX3_agrees 23 = .ok (.getfield 22, 3) := by decide +kernel
theorem dX3_agrees_26 : decode cX3_agrees 26 = .ok (.iload 4, 2) := by decide +kernel
theorem dX3_agrees_28 : decode cX3_agrees 28 = .ok (.iaload, 1) := by decide +kernel
theorem dX3_agrees_29 : decode cX3_agrees 29 = .ok (.iaload, 1) := by decide +kernel
theorem dX3_agrees_30 : decode cX3_agrees 30 = .ok (.aload_n 0, 1) := by decide +kernel
theorem dX3_agrees_31 : decode cX3_agrees 31 = .ok (.getfield 22, 3) := by decide +kernel
theorem dX3_agrees_34 : decode cX3_agrees 34 = .ok (.iload 4, 2) := by decide +kernel
theorem dX3_agrees_36 : decode cX3_agrees 36 = .ok (.iconst 1, 1) := by decide +kernel
theorem dX3_agrees_37 : decode cX3_agrees 37 = .ok (.iadd, 1) := by decide +kernel
theorem dX3_agrees_38 : decode cX3_agrees 38 = .ok (.iaload, 1) := by decide +kernel
theorem dX3_agrees_39 : decode cX3_agrees 39 = .ok (.if_icmp .ne 7, 3) := by decide +kernel
theorem dX3_agrees_42 : decode cX3_agrees 42 = .ok (.iconst 1, 1) := by decide +kernel
theorem dX3_agrees_43 : decode cX3_agrees 43 = .ok (.goto 4, 3) := by decide +kernel
theorem dX3_agrees_46 : decode cX3_agrees 46 = .ok (.iconst 0, 1) := by decide +kernel
theorem dX3_agrees_47 : decode cX3_agrees 47 = .ok (.istore 5, 2) := by decide +kernel
theorem dX3_agrees_49 : decode cX3_agrees 49 = .ok (.aload_n 0, 1) := by decide +kernel
theorem dX3_agrees_50 : decode cX3_agrees 50 = .ok (.getfield 22, 3) := by decide +kernel
theorem dX3_agrees_53 : decode cX3_agrees 53 = .ok (.iload 4, 2) := by decide +kernel
theorem dX3_agrees_55 : decode cX3_agrees 55 = .ok (.iconst 2, 1) := by decide +kernel
theorem dX3_agrees_56 : decode cX3_agrees 56 = .ok (.iadd, 1) := by decide +kernel
theorem dX3_agrees_57 : decode cX3_agrees 57 = .ok (.iaload, 1) := by decide +kernel
theorem dX3_agrees_58 : decode cX3_agrees 58 = .ok (.iload_n 2, 1) := by decide +kernel
theorem dX3_agrees_59 : decode cX3_agrees 59 = .ok (.if_icmp .ne 28, 3) := by decide +kernel
theorem dX3_agrees_62 : decode cX3_agrees 62 = .ok (.iload 5, 2) := by decide +kernel
theorem dX3_agrees_64 : decode cX3_agrees 64 = .ok (.aload_n 0, 1) := by decide +kernel
theorem dX3_agrees_65 : decode cX3_agrees 65 = .ok (.getfield 22, 3) := by decide +kernel
theorem dX3_agrees_68 : decode cX3_agrees 68 = .ok (.iload 4, 2) := by decide +kernel
theorem dX3_agrees_70 : decode cX3_agrees 70 = .ok (.iconst 3, 1) := by decide +kernel
theorem dX3_agrees_71 : decode cX3_agrees 71 = .ok (.iadd, 1) := by decide +kernel
theorem dX3_agrees_72 : decode cX3_agrees 72 = .ok (.iaload, 1) := by decide +kernel
theorem dX3_agrees_73 : decode cX3_agrees 73 = .ok (.iconst 1, 1) := by decide +kernel
theorem dX3_agrees_74 : decode cX3_agrees 74 = .ok (.if_icmp .ne 7, 3) := by decide +kernel
theorem dX3_agrees_77 : decode cX3_agrees 77 = .ok (.iconst 1, 1) := by decide +kernel
theorem dX3_agrees_78 : decode cX3_agrees 78 = .ok (.goto 4, 3) := by decide +kernel
theorem dX3_agrees_81 : decode cX3_agrees 81 = .ok (.iconst 0, 1) := by decide +kernel
theorem dX3_agrees_82 : decode cX3_agrees 82 = .ok (.if_icmp .eq 5, 3) := by decide +kernel
theorem dX3_agrees_85 : decode cX3_agrees 85 = .ok (.iconst 0, 1) := by decide +kernel
theorem dX3_agrees_86 : decode cX3_agrees 86 = .ok (.ireturn, 1) := by decide +kernel
theorem dX3_agrees_87 : decode cX3_agrees 87 = .ok (.iinc 3 1, 3) := by decide +kernel
theorem dX3_agrees_90 : decode cX3_agrees 90 = .ok (.goto (-88), 3) := by decide +kernel
theorem dX3_agrees_93 : decode cX3_agrees 93 = .ok (.iconst 1, 1) := by decide +kernel
theorem dX3_agrees_94 : decode cX3_agrees 94 = .ok (.ireturn, 1) := by decide +kernel
theorem dX4_init_0 : decode cX4_init 0 = .ok (.aload_n 0, 1) := by decide +kernel
theorem dX4_init_1 : decode cX4_init 1 = .ok (.invokespecial 3, 3) := by decide +kernel
theorem dX4_init_4 : decode cX4_init 4 = .ok (.aload_n 0, 1) := by decide +kernel
theorem dX4_init_5 : decode cX4_init 5 = .ok (.bipush 16, 2) := by decide +kernel
theorem dX4_init_7 : decode cX4_init 7 = .ok (.newarray .int, 2) := by decide +kernel
theorem dX4_init_9 : decode cX4_init 9 = .ok (.putfield 9, 3) := by decide +kernel
theorem dX4_init_12 : decode cX4_init 12 = .ok (.aload_n 0, 1) := by decide +kernel
theorem dX4_init_13 : decode cX4_init 13 = .ok (.iconst 4, 1) := by decide +kernel
theorem dX4_init_14 : decode cX4_init 14 = .ok (.newarray .int, 2) := by decide +kernel
theorem dX4_init_16 : decode cX4_init 16 = .ok (.putfield 15, 3) := by decide +kernel
theorem dX4_init_19 : decode cX4_init 19 = .ok (.aload_n 0, 1) := by decide +kernel
theorem dX4_init_20 : decode cX4_init 20 = .ok (.bipush 16, 2) := by decide +kernel
theorem dX4_init_22 : decode cX4_init 22 = .ok (.newarray .int, 2) := by decide +kernel
theorem dX4_init_24 : decode cX4_init 24 = .ok (.putfield 18, 3) := by decide +kernel
theorem dX4_init_27 : decode cX4_init 27 = .ok (.aload_n 0, 1) := by decide +kernel
theorem dX4_init_28 : decode cX4_init 28 = .ok (.bipush 16, 2) := by decide +kernel
theorem dX4_init_30 : decode cX4_init 30 = .ok (.newarray .int, 2) := by decide +kernel
theorem dX4_init_32 : decode cX4_init 32 = .ok (.putfield 21, 3) := by decide +kernel
theorem dX4_init_35 : decode cX4_init 35 = .ok (.return_, 1) := by decide +kernel
theorem dX4_cutUp_0 : decode cX4_cutUp 0 = .ok (.aload_n 1, 1) := by decide +kernel
theorem dX4_cutUp_1 : decode cX4_cutUp 1 = .ok (.getfield 24, 3) := by decide +kernel
theorem dX4_cutUp_4 : decode cX4_cutUp 4 = .ok (.aload_n 1, 1) := by decide +kernel
theorem dX4_cutUp_5 : decode cX4_cutUp 5 = .ok (.getfield 30, 3) := by decide +kernel
theorem dX4_cutUp_8 : decode cX4_cutUp 8 = .ok (.if_icmp .ne 16, 3) := by decide +kernel
theorem dX4_cutUp_11 : decode cX4_cutUp 11 = .ok (.aload_n 1, 1) := by decide +kernel
theorem dX4_cutUp_12 : decode cX4_cutUp 12 = .ok (.aload_n 2, 1) := by decide +kernel
theorem dX4_cutUp_13 : decode cX4_cutUp 13 = .ok (.aload_n 1, 1) := by decide +kernel
theorem dX4_cutUp_14 : decode cX4_cutUp 14 = .ok (.iload_n 3, 1) := by decide +kernel
theorem dX4_cutUp_15 : decode cX4_cutUp 15 = .ok (.invokevirtual 32, 3) := by decide +kernel
theorem dX4_cutUp_18 : decode cX4_cutUp 18 = .ok (.invokestatic 36, 3) := by decide +kernel
theorem dX4_cutUp_21 : decode cX4_cutUp 21 = .ok (.ifCond .ne 5, 3) := by decide +kernel
theorem dX4_cutUp_24 : decode cX4_cutUp 24 = .ok (.iconst 0, 1) := by decide +kernel
theorem dX4_cutUp_25 : decode cX4_cutUp 25 = .ok (.ireturn, 1) := by decide +kernel
theorem dX4_cutUp_26 : decode cX4_cutUp 26 = .ok (.aload_n 2, 1) := by decide +kernel
theorem dX4_cutUp_27 : decode cX4_cutUp 27 = .ok (.iconst 0, 1) := by decide +kernel
theorem dX4_cutUp_28 : decode cX4_cutUp 28 = .ok (.aload_n 0, 1) := by decide +kernel
theorem dX4_cutUp_29 : decode cX4_cutUp 29 = .ok (.getfield 9, 3) := by decide +kernel
theorem dX4_cutUp_32 : decode cX4_cutUp 32 = .ok (.iconst 0, 1) := by decide +kernel
theorem dX4_cutUp_33 : decode cX4_cutUp 33 = .ok (.aload_n 0, 1) := by decide +kernel
theorem dX4_cutUp_34 : decode cX4_cutUp 34 = .ok (.getfield 9, 3) := by decide +kernel
theorem dX4_cutUp_37 : decode cX4_cutUp 37 = .ok (.arraylength, 1) := by decide +kernel
theorem dX4_cutUp_38 : decode cX4_cutUp 38 = .ok (.invokestatic 40, 3) := by decide +kernel
theorem dX4_cutUp_41 : decode cX4_cutUp 41 = .ok (.aload_n 0, 1) := by decide +kernel
theorem dX4_cutUp_42 : decode cX4_cutUp 42 = .ok (.iconst 0, 1) := by decide +kernel
theorem dX4_cutUp_43 : decode cX4_cutUp 43 = .ok (.putfield 46, 3) := by decide +kernel
theorem dX4_cutUp_46 : decode cX4_cutUp 46 = .ok (.aload_n 0, 1) := by decide +kernel
theorem dX4_cutUp_47 : decode cX4_cutUp 47 = .ok (.getfield 46, 3) := by decide +kernel
theorem dX4_cutUp_50 : decode cX4_cutUp 50 = .ok (.bipush 16, 2) := by decide +kernel
theorem dX4_cutUp_52 : decode cX4_cutUp 52 = .ok (.if_icmp .ge 24, 3) := by decide +kernel
theorem dX4_cutUp_55 : decode cX4_cutUp 55 = .ok (.aload_n 0, 1) := by decide +kernel
theorem dX4_cutUp_56 : decode cX4_cutUp 56 = .ok (.aload_n 1, 1) := by decide +kernel
theorem dX4_cutUp_57 : decode cX4_cutUp 57 = .ok (.invokevirtual 49, 3) := by decide +kernel
theorem dX4_cutUp_60 : decode cX4_cutUp 60 = .ok (.ifCond .eq 16, 3) := by decide +kernel
theorem dX4_cutUp_63 : decode cX4_cutUp 63 = .ok (.aload_n 0, 1) := by decide +kernel
theorem dX4_cutUp_64 : decode cX4_cutUp 64 = .ok (.dup, 1) := by decide +kernel
theorem dX4_cutUp_65 : decode cX4_cutUp 65 = .ok (.getfield 46, 3) := by decide +kernel
theorem dX4_cutUp_68 : decode cX4_cutUp 68 = .ok (.iconst 1, 1) := by decide +kernel
theorem dX4_cutUp_69 : decode cX4_cutUp 69 = .ok (.iadd, 1) := by decide +kernel
theorem dX4_cutUp_70 : decode cX4_cutUp 70 = .ok (.putfield 46, 3) := by decide +kernel
theorem dX4_cutUp_73 : decode cX4_cutUp 73 = .ok (.goto (-27), 3) := by decide +kernel
theorem dX4_cutUp_76 : decode cX4_cutUp 76 = .ok (.iconst 1, 1) := by decide +kernel
theorem dX4_cutUp_77 : decode cX4_cutUp 77 = .ok (.ireturn, 1) := by decide +kernel
theorem dX4_addsUp_0 : decode cX4_addsUp 0 = .ok (.iconst 0, 1) := by decide +kernel
theorem dX4_addsUp_1 : decode cX4_addsUp 1 = .ok (.istore_n 3, 1) := by decide +kernel
theorem dX4_addsUp_2 : decode cX4_addsUp 2 = .ok (.iload_n 3, 1) := by decide +kernel
theorem dX4_addsUp_3 : decode cX4_addsUp 3 = .ok (.aload_n 0, 1) := by decide +kernel
theorem dX4_addsUp_4 : decode cX4_addsUp 4 = .ok (.getfield 30, 3) := by decide +kernel
theorem dX4_addsUp_7 : decode cX4_addsUp 7 = .ok (.if_icmp .ge 73, 3) := by decide +kernel
theorem dX4_addsUp_10 : decode cX4_addsUp 10 = .ok (.iconst 0, 1) := by decide +kernel
theorem dX4_addsUp_11 : decode cX4_addsUp 11 = .ok (.istore 4, 2) := by decide +kernel
theorem dX4_addsUp_13 : decode cX4_addsUp 13 = .ok (.iconst 0, 1) := by decide +kernel
theorem dX4_addsUp_14 : decode cX4_addsUp 14 = .ok (.istore 5, 2) := by decide +kernel
theorem dX4_addsUp_16 : decode cX4_addsUp 16 = .ok (.iconst 0, 1) := by decide +kernel
theorem dX4_addsUp_17 : decode cX4_addsUp 17 = .ok (.istore 6, 2) := by decide +kernel
theorem dX4_addsUp_19 : decode cX4_addsUp 19 = .ok (.iload 6, 2) := by decide +kernel
theorem dX4_addsUp_21 : decode cX4_addsUp 21 = .ok (.aload_n 0, 1) := by decide +kernel
theorem dX4_addsUp_22 : decode cX4_addsUp 22 = .ok (.getfield 30, 3) := by decide +kernel
theorem dX4_addsUp_25 : decode cX4_addsUp 25 = .ok (.if_icmp .ge 35, 3) := by decide +kernel
theorem dX4_addsUp_28 : decode cX4_addsUp 28 = .ok (.iload 4, 2) := by decide +kernel
theorem dX4_addsUp_30 : decode cX4_addsUp 30 = .ok (.aload_n 1, 1) := by decide +kernel
theorem dX4_addsUp_31 : decode cX4_addsUp 31 = .ok (.iload_n 3, 1) := by decide +kernel
theorem dX4_addsUp_32 : decode cX4_addsUp 32 = .ok (.iconst 4, 1) := by decide +kernel
theorem dX4_addsUp_33 : decode cX4_addsUp 33 = .ok (.imul, 1) := by decide +kernel
theorem dX4_addsUp_34 : decode cX4_addsUp 34 = .ok (.iload 6, 2) := by decide +kernel
theorem dX4_addsUp_36 : decode cX4_addsUp 36 = .ok (.iadd, 1) := by decide +kernel
theorem dX4_addsUp_37 : decode cX4_addsUp 37 = .ok (.iaload, 1) := by decide +kernel
theorem dX4_addsUp_38 : decode cX4_addsUp 38 = .ok (.iadd, 1) := by decide +kernel
theorem dX4_addsUp_39 : decode cX4_addsUp 39 = .ok (.istore 4, 2) := by decide +kernel
theorem dX4_addsUp_41 : decode cX4_addsUp 41 = .ok (.iload 5, 2) := by decide +kernel
theorem dX4_addsUp_43 : decode cX4_addsUp 43 = .ok (.aload_n 1, 1) := by decide +kernel
theorem dX4_addsUp_44 : decode cX4_addsUp 44 = .ok (.iload 6, 2) := by decide +kernel
theorem dX4_addsUp_46 : decode cX4_addsUp 46 = .ok (.iconst 4, 1) := by decide +kernel
theorem dX4_addsUp_47 : decode cX4_addsUp 47 = .ok (.imul, 1) := by decide +kernel
theorem dX4_addsUp_48 : decode cX4_addsUp 48 = .ok (.iload_n 3, 1) := by decide +kernel
theorem dX4_addsUp_49 : decode cX4_addsUp 49 = .ok (.iadd, 1) := by decide +kernel
theorem dX4_addsUp_50 : decode cX4_addsUp 50 = .ok (.iaload, 1) := by decide +kernel
theorem dX4_addsUp_51 : decode cX4_addsUp 51 = .ok (.iadd, 1) := by decide +kernel
theorem dX4_addsUp_52 : decode cX4_addsUp 52 = .ok (.istore 5, 2) := by decide +kernel
theorem dX4_addsUp_54 : decode cX4_addsUp 54 = .ok (.iinc 6 1, 3) := by decide +kernel
theorem dX4_addsUp_57 : decode cX4_addsUp 57 = .ok (.goto (-38), 3) := by decide +kernel
theorem dX4_addsUp_60 : decode cX4_addsUp 60 = .ok (.iload 4, 2) := by decide +kernel
theorem dX4_addsUp_62 : decode cX4_addsUp 62 = .ok (.iload_n 2, 1) := by decide +kernel
theorem dX4_addsUp_63 : decode cX4_addsUp 63 = .ok (.if_icmp .ne 9, 3) := by decide +kernel
theorem dX4_addsUp_66 : decode cX4_addsUp 66 = .ok (.iload 5, 2) := by decide +kernel
theorem dX4_addsUp_68 : decode cX4_addsUp 68 = .ok (.iload_n 2, 1) := by decide +kernel
theorem dX4_addsUp_69 : decode cX4_addsUp 69 = .ok (.if_icmp .eq 5, 3) := by decide +kernel
theorem dX4_addsUp_72 : decode cX4_addsUp 72 = .ok (.iconst 0, 1) := by decide +kernel
theorem dX4_addsUp_73 : decode cX4_addsUp 73 = .ok (.ireturn, 1) := by decide +kernel
theorem dX4_addsUp_74 : decode cX4_addsUp 74 = .ok (.iinc 3 1, 3) := by decide +kernel
theorem dX4_addsUp_77 : decode cX4_addsUp 77 = .ok (.goto (-75), 3) := by decide +kernel
theorem dX4_addsUp_80 : decode cX4_addsUp 80 = .ok (.iconst 1, 1) := by decide +kernel
theorem dX4_addsUp_81 : decode cX4_addsUp 81 = .ok (.ireturn, 1) := by decide +kernel
theorem dX4_cutOne_0 : decode cX4_cutOne 0 = .ok (.iconst 0, 1) := by decide +kernel
theorem dX4_cutOne_1 : decode cX4_cutOne 1 = .ok (.istore_n 2, 1) := by decide +kernel
theorem dX4_cutOne_2 : decode cX4_cutOne 2 = .ok (.iload_n 2, 1) := by decide +kernel
theorem dX4_cutOne_3 : decode cX4_cutOne 3 = .ok (.iconst 1, 1) := by decide +kernel
theorem dX4_cutOne_4 : decode cX4_cutOne 4 = .ok (.iconst 2, 1) := by decide +kernel
theorem dX4_cutOne_5 : decode cX4_cutOne 5 = .ok (.aload_n 1, 1) := by decide +kernel
theorem dX4_cutOne_6 : decode cX4_cutOne 6 = .ok (.getfield 24, 3) := by decide +kernel
theorem dX4_cutOne_9 : decode cX4_cutOne 9 = .ok (.imul, 1) := by decide +kernel
theorem dX4_cutOne_10 : decode cX4_cutOne 10 = .ok (.ishl, 1) := by decide +kernel
theorem dX4_cutOne_11 : decode cX4_cutOne 11 = .ok (.if_icmp .ge 99, 3) := by decide +kernel
theorem dX4_cutOne_14 : decode cX4_cutOne 14 = .ok (.aload_n 1, 1) := by decide +kernel
theorem dX4_cutOne_15 : decode cX4_cutOne 15 = .ok (.iload_n 2, 1) := by decide +kernel
theorem dX4_cutOne_16 : decode cX4_cutOne 16 = .ok (.aload_n 0, 1) := by decide +kernel
theorem dX4_cutOne_17 : decode cX4_cutOne 17 = .ok (.getfield 15, 3) := by decide +kernel
theorem dX4_cutOne_20 : decode cX4_cutOne 20 = .ok (.invokevirtual 53, 3) := by decide +kernel
theorem dX4_cutOne_23 : decode cX4_cutOne 23 = .ok (.ifCond .eq 14, 3) := by decide +kernel
theorem dX4_cutOne_26 : decode cX4_cutOne 26 = .ok (.aload_n 0, 1) := by decide +kernel
theorem dX4_cutOne_27 : decode cX4_cutOne 27 = .ok (.aload_n 1, 1) := by decide +kernel
theorem dX4_cutOne_28 : decode cX4_cutOne 28 = .ok (.getfield 24, 3) := by decide +kernel
theorem dX4_cutOne_31 : decode cX4_cutOne 31 = .ok (.invokevirtual 57, 3) := by decide +kernel
theorem dX4_cutOne_34 : decode cX4_cutOne 34 = .ok (.goto 4, 3) := by decide +kernel
theorem dX4_cutOne_37 : decode cX4_cutOne 37 = .ok (.iconst 0, 1) := by decide +kernel
theorem dX4_cutOne_38 : decode cX4_cutOne 38 = .ok (.istore_n 3, 1) := by decide +kernel
theorem dX4_cutOne_39 : decode cX4_cutOne 39 = .ok (.iload_n 3, 1) := by decide +kernel
theorem dX4_cutOne_40 : decode cX4_cutOne 40 = .ok (.ifCond .le 64, 3) := by decide +kernel
theorem dX4_cutOne_43 : decode cX4_cutOne 43 = .ok (.iconst 0, 1) := by decide +kernel
theorem dX4_cutOne_44 : decode cX4_cutOne 44 = .ok (.istore 4, 2) := by decide +kernel
theorem dX4_cutOne_46 : decode cX4_cutOne 46 = .ok (.iload 4, 2) := by decide +kernel
theorem dX4_cutOne_48 : decode cX4_cutOne 48 = .ok (.aload_n 1, 1) := by decide +kernel
theorem dX4_cutOne_49 : decode cX4_cutOne 49 = .ok (.getfield 24, 3) := by decide +kernel
theorem dX4_cutOne_52 : decode cX4_cutOne 52 = .ok (.if_icmp .ge 30, 3) := by decide +kernel
theorem dX4_cutOne_55 : decode cX4_cutOne 55 = .ok (.aload_n 0, 1) := by decide +kernel
theorem dX4_cutOne_56 : decode cX4_cutOne 56 = .ok (.getfield 9, 3) := by decide +kernel
theorem dX4_cutOne_59 : decode cX4_cutOne 59 = .ok (.iload 4, 2) := by decide +kernel
theorem dX4_cutOne_61 : decode cX4_cutOne 61 = .ok (.iconst 4, 1) := by decide +kernel
theorem dX4_cutOne_62 : decode cX4_cutOne 62 = .ok (.imul, 1) := by decide +kernel
theorem dX4_cutOne_63 : decode cX4_cutOne 63 = .ok (.aload_n 0, 1) := by decide +kernel
theorem dX4_cutOne_64 : decode cX4_cutOne 64 = .ok (.getfield 15, 3) := by decide +kernel
theorem dX4_cutOne_67 : decode cX4_cutOne 67 = .ok (.iload 4, 2) := by decide +kernel
theorem dX4_cutOne_69 : decode cX4_cutOne 69 = .ok (.iaload, 1) := by decide +kernel
theorem dX4_cutOne_70 : decode cX4_cutOne 70 = .ok (.iadd, 1) := by decide +kernel
theorem dX4_cutOne_71 : decode cX4_cutOne 71 = .ok (.dup2, 1) := by decide +kernel
theorem dX4_cutOne_72 : decode cX4_cutOne 72 = .ok (.iaload, 1) := by decide +kernel
theorem dX4_cutOne_73 : decode cX4_cutOne 73 = .ok (.iload_n 3, 1) := by decide +kernel
theorem dX4_cutOne_74 : decode cX4_cutOne 74 = .ok (.isub, 1) := by decide +kernel
theorem dX4_cutOne_75 : decode cX4_cutOne 75 = .ok (.iastore, 1) := by decide +kernel
theorem dX4_cutOne_76 : decode cX4_cutOne 76 = .ok (.iinc 4 1, 3) := by decide +kernel
theorem dX4_cutOne_79 : decode cX4_cutOne 79 = .ok (.goto (-33), 3) := by decide +kernel
theorem dX4_cutOne_82 : decode cX4_cutOne 82 = .ok (.aload_n 0, 1) := by decide +kernel
theorem dX4_cutOne_83 : decode cX4_cutOne 83 = .ok (.getfield 18, 3) := by decide +kernel
theorem dX4_cutOne_86 : decode cX4_cutOne 86 = .ok (.aload_n 0, 1) := by decide +kernel
theorem dX4_cutOne_87 : decode cX4_cutOne 87 = .ok (.getfield 46, 3) := by decide +kernel
theorem dX4_cutOne_90 : decode cX4_cutOne 90 = .ok (.iload_n 2, 1) := by decide +kernel
theorem dX4_cutOne_91 : decode cX4_cutOne 91 = .ok (.iastore, 1) := by decide +kernel
theorem dX4_cutOne_92 : decode cX4_cutOne 92 = .ok (.aload_n 0, 1) := by decide +kernel
theorem dX4_cutOne_93 : decode cX4_cutOne 93 = .ok (.getfield 21, 3) := by decide +kernel
theorem dX4_cutOne_96 : decode cX4_cutOne 96 = .ok (.aload_n 0, 1) := by decide +kernel
theorem dX4_cutOne_97 : decode cX4_cutOne 97 = .ok (.getfield 46, 3) := by decide +kernel
theorem dX4_cutOne_100 : decode cX4_cutOne 100 = .ok (.iload_n 3, 1) := by decide +kernel
theorem dX4_cutOne_101 : decode cX4_cutOne 101 = .ok (.iastore, 1) := by decide +kernel
theorem dX4_cutOne_102 : decode cX4_cutOne 102 = .ok (.iconst 1, 1) := by decide +kernel
theorem dX4_cutOne_103 : decode cX4_cutOne 103 = .ok (.ireturn, 1) := by decide +kernel
theorem dX4_cutOne_104 : decode cX4_cutOne 104 = .ok (.iinc 2 1, 3) := by decide +kernel
theorem dX4_cutOne_107 : decode cX4_cutOne 107 = .ok (.goto (-105), 3) := by decide +kernel
theorem dX4_cutOne_110 : decode cX4_cutOne 110 = .ok (.iconst 0, 1) := by decide +kernel
theorem dX4_cutOne_111 : decode cX4_cutOne 111 = .ok (.ireturn, 1) := by decide +kernel
theorem dX4_leastLeft_0 : decode cX4_leastLeft 0 = .ok (.ldc 62, 2) := by decide +kernel
theorem dX4_leastLeft_2 : decode cX4_leastLeft 2 = .ok (.istore_n 2, 1) := by decide +kernel
theorem dX4_leastLeft_3 : decode cX4_leastLeft 3 = .ok (.iconst 0, 1) := by decide +kernel
theorem dX4_leastLeft_4 : decode cX4_leastLeft 4 = .ok (.istore_n 3, 1) := by decide +kernel
theorem dX4_leastLeft_5 : decode cX4_leastLeft 5 = .ok (.iload_n 3, 1) := by decide +kernel
theorem dX4_leastLeft_6 : decode cX4_leastLeft 6 = .ok (.iload_n 1, 1) := by decide +kernel
theorem dX4_leastLeft_7 : decode cX4_leastLeft 7 = .ok (.if_icmp .ge 29, 3) := by decide +kernel
theorem dX4_leastLeft_10 : decode cX4_leastLeft 10 = .ok (.iload_n 2, 1) := by decide +kernel
theorem dX4_leastLeft_11 : decode cX4_leastLeft 11 = .ok (.aload_n 0, 1) := by decide +kernel
theorem dX4_leastLeft_12 : decode cX4_leastLeft 12 = .ok (.getfield 9, 3) := by decide +kernel
theorem dX4_leastLeft_15 : decode cX4_leastLeft 15 = .ok (.iload_n 3, 1) := by decide +kernel
theorem dX4_leastLeft_16 : decode cX4_leastLeft 16 = .ok (.iconst 4, 1) := by decide +kernel
theorem dX4_leastLeft_17 : decode cX4_leastLeft 17 = .ok (.imul, 1) := by decide +kernel
theorem dX4_leastLeft_18 : decode cX4_leastLeft 18 = .ok (.aload_n 0, 1) := by decide +kernel
theorem dX4_leastLeft_19 : decode cX4_leastLeft 19 = .ok (.getfield 15, 3) := by decide +kernel
theorem dX4_leastLeft_22 : decode cX4_leastLeft 22 = .ok (.iload_n 3, 1) := by decide +kernel
theorem dX4_leastLeft_23 : decode cX4_leastLeft 23 = .ok (.iaload, 1) := by decide +kernel
theorem dX4_leastLeft_24 : decode cX4_leastLeft 24 = .ok (.iadd, 1) := by decide +kernel
theorem dX4_leastLeft_25 : decode cX4_leastLeft 25 = .ok (.iaload, 1) := by decide +kernel
theorem dX4_leastLeft_26 : decode cX4_leastLeft 26 = .ok (.invokestatic 63, 3) := by decide +kernel
theorem dX4_leastLeft_29 : decode cX4_leastLeft 29 = .ok (.istore_n 2, 1) := by decide +kernel
theorem dX4_leastLeft_30 : decode cX4_leastLeft 30 = .ok (.iinc 3 1, 3) := by decide +kernel
theorem dX4_leastLeft_33 : decode cX4_leastLeft 33 = .ok (.goto (-28), 3) := by decide +kernel
theorem dX4_leastLeft_36 : decode cX4_leastLeft 36 = .ok (.iload_n 2, 1) := by decide +kernel
theorem dX4_leastLeft_37 : decode cX4_leastLeft 37 = .ok (.ireturn, 1) := by decide +kernel
theorem dX5_init_0 : decode cX5_init 0 = .ok (.aload_n 0, 1) := by decide +kernel
theorem dX5_init_1 : decode cX5_init 1 = .ok (.invokespecial 3, 3) := by decide +kernel
theorem dX5_init_4 : decode cX5_init 4 = .ok (.aload_n 0, 1) := by decide +kernel
theorem dX5_init_5 : decode cX5_init 5 = .ok (.ldc 9, 2) := by decide +kernel
theorem dX5_init_7 : decode cX5_init 7 = .ok (.putfield 11, 3) := by decide +kernel
theorem dX5_init_10 : decode cX5_init 10 = .ok (.aload_n 0, 1) := by decide +kernel
theorem dX5_init_11 : decode cX5_init 11 = .ok (.aload_n 1, 1) := by decide +kernel
theorem dX5_init_12 : decode cX5_init 12 = .ok (.putfield 17, 3) := by decide +kernel
theorem dX5_init_15 : decode cX5_init 15 = .ok (.return_, 1) := by decide +kernel
theorem dX5_readRoad_0 : decode cX5_readRoad 0 = .ok (.aload_n 0, 1) := by decide +kernel
theorem dX5_readRoad_1 : decode cX5_readRoad 1 = .ok (.aload_n 1, 1) := by decide +kernel
theorem dX5_readRoad_2 : decode cX5_readRoad 2 = .ok (.invokevirtual 21, 3) := by decide +kernel
theorem dX5_readRoad_5 : decode cX5_readRoad 5 = .ok (.aload_n 1, 1) := by decide +kernel
theorem dX5_readRoad_6 : decode cX5_readRoad 6 = .ok (.invokevirtual 25, 3) := by decide +kernel
theorem dX5_readRoad_9 : decode cX5_readRoad 9 = .ok (.aload_n 0, 1) := by decide +kernel
theorem dX5_readRoad_10 : decode cX5_readRoad 10 = .ok (.invokevirtual 30, 3) := by decide +kernel
theorem dX5_readRoad_13 : decode cX5_readRoad 13 = .ok (.istore_n 2, 1) := by decide +kernel
theorem dX5_readRoad_14 : decode cX5_readRoad 14 = .ok (.iconst 0, 1) := by decide +kernel
theorem dX5_readRoad_15 : decode cX5_readRoad 15 = .ok (.istore_n 3, 1) := by decide +kernel
theorem dX5_readRoad_16 : decode cX5_readRoad 16 = .ok (.iload_n 2, 1) := by decide +kernel
theorem dX5_readRoad_17 : decode cX5_readRoad 17 = .ok (.ifCond .eq 151, 3) := by decide +kernel
theorem dX5_readRoad_20 : decode cX5_readRoad 20 = .ok (.aload_n 0, 1) := by decide +kernel
theorem dX5_readRoad_21 : decode cX5_readRoad 21 = .ok (.getfield 17, 3) := by decide +kernel
theorem dX5_readRoad_24 : decode cX5_readRoad 24 = .ok (.getfield 34, 3) := by decide +kernel
theorem dX5_readRoad_27 : decode cX5_readRoad 27 = .ok (.ifCond .eq 141, 3) := by decide +kernel
theorem dX5_readRoad_30 : decode cX5_readRoad 30 = .ok (.iload_n 3, 1) := by decide +kernel
theorem dX5_readRoad_31 : decode cX5_readRoad 31 = .ok (.sipush 1000, 3) := by decide +kernel
theorem dX5_readRoad_34 : decode cX5_readRoad 34 = .ok (.if_icmp .ge 134, 3) := by decide +kernel
theorem dX5_readRoad_37 : decode cX5_readRoad 37 = .ok (.aload_n 0, 1) := by decide +kernel
theorem dX5_readRoad_38 : decode cX5_readRoad 38 = .ok (.getfield 17, 3) := by decide +kernel
theorem dX5_readRoad_41 : decode cX5_readRoad 41 = .ok (.ldc 40, 2) := by decide +kernel
theorem dX5_readRoad_43 : decode cX5_readRoad 43 = .ok (.invokevirtual 42, 3) := by decide +kernel
theorem dX5_readRoad_46 : decode cX5_readRoad 46 = .ok (.tableswitch 110 0 7 #[46, 54, 62, 70, 78, 86, 94, 102], 46) := by decide +kernel
theorem dX5_readRoad_92 : decode cX5_readRoad 92 = .ok (.aload_n 0, 1) := by decide +kernel
theorem dX5_readRoad_93 : decode cX5_readRoad 93 = .ok (.invokevirtual 46, 3) := by decide +kernel
theorem dX5_readRoad_96 : decode cX5_readRoad 96 = .ok (.istore_n 2, 1) := by decide +kernel
theorem dX5_readRoad_97 : decode cX5_readRoad 97 = .ok (.goto 65, 3) := by decide +kernel
theorem dX5_readRoad_100 : decode cX5_readRoad 100 = .ok (.aload_n 0, 1) := by decide +kernel
theorem dX5_readRoad_101 : decode cX5_readRoad 101 = .ok (.invokevirtual 49, 3) := by decide +kernel
theorem dX5_readRoad_104 : decode cX5_readRoad 104 = .ok (.istore_n 2, 1) := by decide +kernel
theorem dX5_readRoad_105 : decode cX5_readRoad 105 = .ok (.goto 57, 3) := by decide +kernel
theorem dX5_readRoad_108 : decode cX5_readRoad 108 = .ok (.aload_n 0, 1) := by decide +kernel
theorem dX5_readRoad_109 : decode cX5_readRoad 109 = .ok (.invokevirtual 52, 3) := by decide +kernel
theorem dX5_readRoad_112 : decode cX5_readRoad 112 = .ok (.istore_n 2, 1) := by decide +kernel
theorem dX5_readRoad_113 : decode cX5_readRoad 113 = .ok (.goto 49, 3) := by decide +kernel
theorem dX5_readRoad_116 : decode cX5_readRoad 116 = .ok (.aload_n 0, 1) := by decide +kernel
theorem dX5_readRoad_117 : decode cX5_readRoad 117 = .ok (.invokevirtual 55, 3) := by decide +kernel
theorem dX5_readRoad_120 : decode cX5_readRoad 120 = .ok (.istore_n 2, 1) := by decide +kernel
theorem dX5_readRoad_121 : decode cX5_readRoad 121 = .ok (.goto 41, 3) := by decide +kernel
theorem dX5_readRoad_124 : decode cX5_readRoad 124 = .ok (.aload_n 0, 1) := by decide +kernel
theorem dX5_readRoad_125 : decode cX5_readRoad 125 = .ok (.invokevirtual 58, 3) := by decide +kernel
theorem dX5_readRoad_128 : decode cX5_readRoad 128 = .ok (.istore_n 2, 1) := by decide +kernel
theorem dX5_readRoad_129 : decode cX5_readRoad 129 = .ok (.goto 33, 3) := by decide +kernel
theorem dX5_readRoad_132 : decode cX5_readRoad 132 = .ok (.aload_n 0, 1) := by decide +kernel
theorem dX5_readRoad_133 : decode cX5_readRoad 133 = .ok (.invokevirtual 61, 3) := by decide +kernel
theorem dX5_readRoad_136 : decode cX5_readRoad 136 = .ok (.istore_n 2, 1) := by decide +kernel
theorem dX5_readRoad_137 : decode cX5_readRoad 137 = .ok (.goto 25, 3) := by decide +kernel
theorem dX5_readRoad_140 : decode cX5_readRoad 140 = .ok (.aload_n 0, 1) := by decide +kernel
theorem dX5_readRoad_141 : decode cX5_readRoad 141 = .ok (.invokevirtual 64, 3) := by decide +kernel
theorem dX5_readRoad_144 : decode cX5_readRoad 144 = .ok (.istore_n 2, 1) := by decide +kernel
theorem dX5_readRoad_145 : decode cX5_readRoad 145 = .ok (.goto 17, 3) := by decide +kernel
theorem dX5_readRoad_148 : decode cX5_readRoad 148 = .ok (.aload_n 0, 1) := by decide +kernel
theorem dX5_readRoad_149 : decode cX5_readRoad 149 = .ok (.invokevirtual 67, 3) := by decide +kernel
theorem dX5_readRoad_152 : decode cX5_readRoad 152 = .ok (.istore_n 2, 1) := by decide +kernel
theorem dX5_readRoad_153 : decode cX5_readRoad 153 = .ok (.goto 9, 3) := by decide +kernel
theorem dX5_readRoad_156 : decode cX5_readRoad 156 = .ok (.aload_n 0, 1) := by decide +kernel
theorem dX5_readRoad_157 : decode cX5_readRoad 157 = .ok (.iconst 1, 1) := by decide +kernel
theorem dX5_readRoad_158 : decode cX5_readRoad 158 = .ok (.invokevirtual 70, 3) := by decide +kernel
theorem dX5_readRoad_161 : decode cX5_readRoad 161 = .ok (.istore_n 2, 1) := by decide +kernel
theorem dX5_readRoad_162 : decode cX5_readRoad 162 = .ok (.iinc 3 1, 3) := by decide +kernel
theorem dX5_readRoad_165 : decode cX5_readRoad 165 = .ok (.goto (-149), 3) := by decide +kernel
theorem dX5_readRoad_168 : decode cX5_readRoad 168 = .ok (.aload_n 0, 1) := by decide +kernel
theorem dX5_readRoad_169 : decode cX5_readRoad 169 = .ok (.getfield 17, 3) := by decide +kernel
theorem dX5_readRoad_172 : decode cX5_readRoad 172 = .ok (.invokevirtual 74, 3) := by decide +kernel
theorem dX5_readRoad_175 : decode cX5_readRoad 175 = .ok (.aload_n 0, 1) := by decide +kernel
theorem dX5_readRoad_176 : decode cX5_readRoad 176 = .ok (.getfield 75, 3) := by decide +kernel
theorem dX5_readRoad_179 : decode cX5_readRoad 179 = .ok (.ireturn, 1) := by decide +kernel
theorem dX5_readJourney_0 : decode cX5_readJourney 0 = .ok (.aload_n 0, 1) := by decide +kernel
theorem dX5_readJourney_1 : decode cX5_readJourney 1 = .ok (.aload_n 1, 1) := by decide +kernel
theorem dX5_readJourney_2 : decode cX5_readJourney 2 = .ok (.invokevirtual 21, 3) := by decide +kernel
theorem dX5_readJourney_5 : decode cX5_readJourney 5 = .ok (.aload_n 2, 1) := by decide +kernel
theorem dX5_readJourney_6 : decode cX5_readJourney 6 = .ok (.iconst 0, 1) := by decide +kernel
theorem dX5_readJourney_7 : decode cX5_readJourney 7 = .ok (.putfield 78, 3) := by decide +kernel
theorem dX5_readJourney_10 : decode cX5_readJourney 10 = .ok (.iconst 1, 1) := by decide +kernel
theorem dX5_readJourney_11 : decode cX5_readJourney 11 = .ok (.istore_n 3, 1) := by decide +kernel
theorem dX5_readJourney_12 : decode cX5_readJourney 12 = .ok (.iconst 0, 1) := by decide +kernel
theorem dX5_readJourney_13 : decode cX5_readJourney 13 = .ok (.istore 4, 2) := by decide +kernel
theorem dX5_readJourney_15 : decode cX5_readJourney 15 = .ok (.iload_n 3, 1) := by decide +kernel
theorem dX5_readJourney_16 : decode cX5_readJourney 16 = .ok (.ifCond .eq 33, 3) := by decide +kernel
theorem dX5_readJourney_19 : decode cX5_readJourney 19 = .ok (.aload_n 0, 1) := by decide +kernel
theorem dX5_readJourney_20 : decode cX5_readJourney 20 = .ok (.getfield 17, 3) := by decide +kernel
theorem dX5_readJourney_23 : decode cX5_readJourney 23 = .ok (.getfield 34, 3) := by decide +kernel
theorem dX5_readJourney_26 : decode cX5_readJourney 26 = .ok (.ifCond .eq 23, 3) := by decide +kernel
theorem dX5_readJourney_29 : decode cX5_readJourney 29 = .ok (.iload 4, 2) := by decide +kernel
theorem dX5_readJourney_31 : decode cX5_readJourney 31 = .ok (.sipush 1000, 3) := by decide +kernel
theorem dX5_readJourney_34 : decode cX5_readJourney 34 = .ok (.if_icmp .ge 15, 3) := by decide +kernel
theorem dX5_readJourney_37 : decode cX5_readJourney 37 = .ok (.aload_n 0, 1) := by decide +kernel
theorem dX5_readJourney_38 : decode cX5_readJourney 38 = .ok (.aload_n 2, 1) := by decide +kernel
theorem dX5_readJourney_39 : decode cX5_readJourney 39 = .ok (.invokevirtual 83, 3) := by decide +kernel
theorem dX5_readJourney_42 : decode cX5_readJourney 42 = .ok (.istore_n 3, 1) := by decide +kernel
theorem dX5_readJourney_43 : decode cX5_readJourney 43 = .ok (.iinc 4 1, 3) := by decide +kernel
theorem dX5_readJourney_46 : decode cX5_readJourney 46 = .ok (.goto (-31), 3) := by decide +kernel
theorem dX5_readJourney_49 : decode cX5_readJourney 49 = .ok (.aload_n 0, 1) := by decide +kernel
theorem dX5_readJourney_50 : decode cX5_readJourney 50 = .ok (.getfield 17, 3) := by decide +kernel
theorem dX5_readJourney_53 : decode cX5_readJourney 53 = .ok (.invokevirtual 74, 3) := by decide +kernel
theorem dX5_readJourney_56 : decode cX5_readJourney 56 = .ok (.aload_n 0, 1) := by decide +kernel
theorem dX5_readJourney_57 : decode cX5_readJourney 57 = .ok (.getfield 75, 3) := by decide +kernel
theorem dX5_readJourney_60 : decode cX5_readJourney 60 = .ok (.ireturn, 1) := by decide +kernel
theorem dX5_readShares_0 : decode cX5_readShares 0 = .ok (.aload_n 0, 1) := by decide +kernel
theorem dX5_readShares_1 : decode cX5_readShares 1 = .ok (.aload_n 1, 1) := by decide +kernel
theorem dX5_readShares_2 : decode cX5_readShares 2 = .ok (.invokevirtual 21, 3) := by decide +kernel
theorem dX5_readShares_5 : decode cX5_readShares 5 = .ok (.iconst 1, 1) := by decide +kernel
theorem dX5_readShares_6 : decode cX5_readShares 6 = .ok (.istore_n 3, 1) := by decide +kernel
theorem dX5_readShares_7 : decode cX5_readShares 7 = .ok (.iconst 0, 1) := by decide +kernel
theorem dX5_readShares_8 : decode cX5_readShares 8 = .ok (.istore 4, 2) := by decide +kernel
theorem dX5_readShares_10 : decode cX5_readShares 10 = .ok (.iload_n 3, 1) := by decide +kernel
theorem dX5_readShares_11 : decode cX5_readShares 11 = .ok (.ifCond .eq 26, 3) := by decide +kernel
theorem dX5_readShares_14 : decode cX5_readShares 14 = .ok (.iload 4, 2) := by decide +kernel
theorem dX5_readShares_16 : decode cX5_readShares 16 = .ok (.aload_n 1, 1) := by decide +kernel
theorem dX5_readShares_17 : decode cX5_readShares 17 = .ok (.getfield 87, 3) := by decide +kernel
theorem dX5_readShares_20 : decode cX5_readShares 20 = .ok (.if_icmp .ge 17, 3) := by decide +kernel
theorem dX5_readShares_23 : decode cX5_readShares 23 = .ok (.aload_n 0, 1) := by decide +kernel
theorem dX5_readShares_24 : decode cX5_readShares 24 = .ok (.aload_n 2, 1) := by decide +kernel
theorem dX5_readShares_25 : decode cX5_readShares 25 = .ok (.iload 4, 2) := by decide +kernel
theorem dX5_readShares_27 : decode cX5_readShares 27 = .ok (.invokevirtual 90, 3) := by decide +kernel
theorem dX5_readShares_30 : decode cX5_readShares 30 = .ok (.istore_n 3, 1) := by decide +kernel
theorem dX5_readShares_31 : decode cX5_readShares 31 = .ok (.iinc 4 1, 3) := by decide +kernel
theorem dX5_readShares_34 : decode cX5_readShares 34 = .ok (.goto (-24), 3) := by decide +kernel
theorem dX5_readShares_37 : decode cX5_readShares 37 = .ok (.iload_n 3, 1) := by decide +kernel
theorem dX5_readShares_38 : decode cX5_readShares 38 = .ok (.ifCond .eq 19, 3) := by decide +kernel
theorem dX5_readShares_41 : decode cX5_readShares 41 = .ok (.aload_n 0, 1) := by decide +kernel
theorem dX5_readShares_42 : decode cX5_readShares 42 = .ok (.getfield 17, 3) := by decide +kernel
theorem dX5_readShares_45 : decode cX5_readShares 45 = .ok (.getfield 34, 3) := by decide +kernel
theorem dX5_readShares_48 : decode cX5_readShares 48 = .ok (.ifCond .eq 9, 3) := by decide +kernel
theorem dX5_readShares_51 : decode cX5_readShares 51 = .ok (.aload_n 0, 1) := by decide +kernel
theorem dX5_readShares_52 : decode cX5_readShares 52 = .ok (.iconst 1, 1) := by decide +kernel
theorem dX5_readShares_53 : decode cX5_readShares 53 = .ok (.invokevirtual 70, 3) := by decide +kernel
theorem dX5_readShares_56 : decode cX5_readShares 56 = .ok (.pop, 1) := by decide +kernel
theorem dX5_readShares_57 : decode cX5_readShares 57 = .ok (.aload_n 0, 1) := by decide +kernel
theorem dX5_readShares_58 : decode cX5_readShares 58 = .ok (.getfield 17, 3) := by decide +kernel
theorem dX5_readShares_61 : decode cX5_readShares 61 = .ok (.invokevirtual 74, 3) := by decide +kernel
theorem dX5_readShares_64 : decode cX5_readShares 64 = .ok (.aload_n 0, 1) := by decide +kernel
theorem dX5_readShares_65 : decode cX5_readShares 65 = .ok (.getfield 75, 3) := by decide +kernel
theorem dX5_readShares_68 : decode cX5_readShares 68 = .ok (.ireturn, 1) := by decide +kernel
theorem dX5_begin_0 : decode cX5_begin 0 = .ok (.aload_n 0, 1) := by decide +kernel
theorem dX5_begin_1 : decode cX5_begin 1 = .ok (.aload_n 1, 1) := by decide +kernel
theorem dX5_begin_2 : decode cX5_begin 2 = .ok (.putfield 94, 3) := by decide +kernel
theorem dX5_begin_5 : decode cX5_begin 5 = .ok (.aload_n 0, 1) := by decide +kernel
theorem dX5_begin_6 : decode cX5_begin 6 = .ok (.iconst 0, 1) := by decide +kernel
theorem dX5_begin_7 : decode cX5_begin 7 = .ok (.putfield 75, 3) := by decide +kernel
theorem dX5_begin_10 : decode cX5_begin 10 = .ok (.aload_n 0, 1) := by decide +kernel
theorem dX5_begin_11 : decode cX5_begin 11 = .ok (.getfield 17, 3) := by decide +kernel
theorem dX5_begin_14 : decode cX5_begin 14 = .ok (.invokevirtual 98, 3) := by decide +kernel
theorem dX5_begin_17 : decode cX5_begin 17 = .ok (.return_, 1) := by decide +kernel
theorem dX5_wrong_0 : decode cX5_wrong 0 = .ok (.aload_n 0, 1) := by decide +kernel
theorem dX5_wrong_1 : decode cX5_wrong 1 = .ok (.iload_n 1, 1) := by decide +kernel
theorem dX5_wrong_2 : decode cX5_wrong 2 = .ok (.bipush 16, 2) := by decide +kernel
theorem dX5_wrong_4 : decode cX5_wrong 4 = .ok (.aload_n 0, 1) := by decide +kernel
theorem dX5_wrong_5 : decode cX5_wrong 5 = .ok (.getfield 17, 3) := by decide +kernel
theorem dX5_wrong_8 : decode cX5_wrong 8 = .ok (.getfield 101, 3) := by decide +kernel
theorem dX5_wrong_11 : decode cX5_wrong 11 = .ok (.imul, 1) := by decide +kernel
theorem dX5_wrong_12 : decode cX5_wrong 12 = .ok (.iadd, 1) := by decide +kernel
theorem dX5_wrong_13 : decode cX5_wrong 13 = .ok (.putfield 75, 3) := by decide +kernel
theorem dX5_wrong_16 : decode cX5_wrong 16 = .ok (.iconst 0, 1) := by decide +kernel
theorem dX5_wrong_17 : decode cX5_wrong 17 = .ok (.ireturn, 1) := by decide +kernel
theorem dX5_takenWrong_0 : decode cX5_takenWrong 0 = .ok (.aload_n 0, 1) := by decide +kernel
theorem dX5_takenWrong_1 : decode cX5_takenWrong 1 = .ok (.iload_n 1, 1) := by decide +kernel
theorem dX5_takenWrong_2 : decode cX5_takenWrong 2 = .ok (.bipush 16, 2) := by decide +kernel
theorem dX5_takenWrong_4 : decode cX5_takenWrong 4 = .ok (.aload_n 0, 1) := by decide +kernel
theorem dX5_takenWrong_5 : decode cX5_takenWrong 5 = .ok (.getfield 17, 3) := by decide +kernel
theorem dX5_takenWrong_8 : decode cX5_takenWrong 8 = .ok (.getfield 104, 3) := by decide +kernel
theorem dX5_takenWrong_11 : decode cX5_takenWrong 11 = .ok (.imul, 1) := by decide +kernel
theorem dX5_takenWrong_12 : decode cX5_takenWrong 12 = .ok (.iadd, 1) := by decide +kernel
theorem dX5_takenWrong_13 : decode cX5_takenWrong 13 = .ok (.putfield 75, 3) := by decide +kernel
theorem dX5_takenWrong_16 : decode cX5_takenWrong 16 = .ok (.iconst 0, 1) := by decide +kernel
theorem dX5_takenWrong_17 : decode cX5_takenWrong 17 = .ok (.ireturn, 1) := by decide +kernel
theorem dX5_takeSign_0 : decode cX5_takeSign 0 = .ok (.aload_n 0, 1) := by decide +kernel
theorem dX5_takeSign_1 : decode cX5_takeSign 1 = .ok (.getfield 17, 3) := by decide +kernel
theorem dX5_takeSign_4 : decode cX5_takeSign 4 = .ok (.iload_n 1, 1) := by decide +kernel
theorem dX5_takeSign_5 : decode cX5_takeSign 5 = .ok (.invokevirtual 107, 3) := by decide +kernel
theorem dX5_takeSign_8 : decode cX5_takeSign 8 = .ok (.ifCond .ne 9, 3) := by decide +kernel
theorem dX5_takeSign_11 : decode cX5_takeSign 11 = .ok (.aload_n 0, 1) := by decide +kernel
theorem dX5_takeSign_12 : decode cX5_takeSign 12 = .ok (.iconst 1, 1) := by decide +kernel
theorem dX5_takeSign_13 : decode cX5_takeSign 13 = .ok (.invokevirtual 70, 3) := by decide +kernel
theorem dX5_takeSign_16 : decode cX5_takeSign 16 = .ok (.ireturn, 1) := by decide +kernel
theorem dX5_takeSign_17 : decode cX5_takeSign 17 = .ok (.aload_n 0, 1) := by decide +kernel
theorem dX5_takeSign_18 : decode cX5_takeSign 18 = .ok (.getfield 17, 3) := by decide +kernel
theorem dX5_takeSign_21 : decode cX5_takeSign 21 = .ok (.invokevirtual 111, 3) := by decide +kernel
theorem dX5_takeSign_24 : decode cX5_takeSign 24 = .ok (.iconst 1, 1) := by decide +kernel
theorem dX5_takeSign_25 : decode cX5_takeSign 25 = .ok (.ireturn, 1) := by decide +kernel
theorem dX5_takeWord_0 : decode cX5_takeWord 0 = .ok (.aload_n 0, 1) := by decide +kernel
theorem dX5_takeWord_1 : decode cX5_takeWord 1 = .ok (.getfield 17, 3) := by decide +kernel
theorem dX5_takeWord_4 : decode cX5_takeWord 4 = .ok (.aload_n 1, 1) := by decide +kernel
theorem dX5_takeWord_5 : decode cX5_takeWord 5 = .ok (.invokevirtual 42, 3) := by decide +kernel
theorem dX5_takeWord_8 : decode cX5_takeWord 8 = .ok (.iconst (-1), 1) := by decide +kernel
theorem dX5_takeWord_9 : decode cX5_takeWord 9 = .ok (.if_icmp .ne 9, 3) := by decide +kernel
theorem dX5_takeWord_12 : decode cX5_takeWord 12 = .ok (.aload_n 0, 1) := by decide +kernel
theorem dX5_takeWord_13 : decode cX5_takeWord 13 = .ok (.iconst 1, 1) := by decide +kernel
theorem dX5_takeWord_14 : decode cX5_takeWord 14 = .ok (.invokevirtual 70, 3) := by decide +kernel
theorem dX5_takeWord_17 : decode cX5_takeWord 17 = .ok (.ireturn, 1) := by decide +kernel
theorem dX5_takeWord_18 : decode cX5_takeWord 18 = .ok (.aload_n 0, 1) := by decide +kernel
theorem dX5_takeWord_19 : decode cX5_takeWord 19 = .ok (.getfield 17, 3) := by decide +kernel
theorem dX5_takeWord_22 : decode cX5_takeWord 22 = .ok (.invokevirtual 111, 3) := by decide +kernel
theorem dX5_takeWord_25 : decode cX5_takeWord 25 = .ok (.iconst 1, 1) := by decide +kernel
theorem dX5_takeWord_26 : decode cX5_takeWord 26 = .ok (.ireturn, 1) := by decide +kernel
theorem dX5_takeNumber_0 : decode cX5_takeNumber 0 = .ok (.aload_n 0, 1) := by decide +kernel
theorem dX5_takeNumber_1 : decode cX5_takeNumber 1 = .ok (.getfield 17, 3) := by decide +kernel
theorem dX5_takeNumber_4 : decode cX5_takeNumber 4 = .ok (.getfield 34, 3) := by decide +kernel
theorem dX5_takeNumber_7 : decode cX5_takeNumber 7 = .ok (.iconst 3, 1) := by decide +kernel
theorem dX5_takeNumber_8 : decode cX5_takeNumber 8 = .ok (.if_icmp .eq 9, 3) := by decide +kernel
theorem dX5_takeNumber_11 : decode cX5_takeNumber 11 = .ok (.aload_n 0, 1) := by decide +kernel
theorem dX5_takeNumber_12 : decode cX5_takeNumber 12 = .ok (.iconst 1, 1) := by decide +kernel
theorem dX5_takeNumber_13 : decode cX5_takeNumber 13 = .ok (.invokevirtual 70, 3) := by decide +kernel
theorem dX5_takeNumber_16 : decode cX5_takeNumber 16 = .ok (.ireturn, 1) := by decide +kernel
theorem dX5_takeNumber_17 : decode cX5_takeNumber 17 = .ok (.aload_n 0, 1) := by decide +kernel
theorem dX5_takeNumber_18 : decode cX5_takeNumber 18 = .ok (.getfield 17, 3) := by decide +kernel
theorem dX5_takeNumber_21 : decode cX5_takeNumber 21 = .ok (.getfield 114, 3) := by decide +kernel
theorem dX5_takeNumber_24 : decode cX5_takeNumber 24 = .ok (.iload_n 1, 1) := by decide +kernel
theorem dX5_takeNumber_25 : decode cX5_takeNumber 25 = .ok (.i2l, 1) := by decide +kernel
theorem dX5_takeNumber_26 : decode cX5_takeNumber 26 = .ok (.lcmp, 1) := by decide +kernel
theorem dX5_takeNumber_27 : decode cX5_takeNumber 27 = .ok (.ifCond .lt 16, 3) := by decide +kernel
theorem dX5_takeNumber_30 : decode cX5_takeNumber 30 = .ok (.aload_n 0, 1) := by decide +kernel
theorem dX5_takeNumber_31 : decode cX5_takeNumber 31 = .ok (.getfield 17, 3) := by decide +kernel
theorem dX5_takeNumber_34 : decode cX5_takeNumber 34 = .ok (.getfield 114, 3) := by decide +kernel
theorem dX5_takeNumber_37 : decode cX5_takeNumber 37 = .ok (.iload_n 2, 1) := by decide +kernel
theorem dX5_takeNumber_38 : decode cX5_takeNumber 38 = .ok (.i2l, 1) := by decide +kernel
theorem dX5_takeNumber_39 : decode cX5_takeNumber 39 = .ok (.lcmp, 1) := by decide +kernel
theorem dX5_takeNumber_40 : decode cX5_takeNumber 40 = .ok (.ifCond .le 9, 3) := by decide +kernel
theorem dX5_takeNumber_43 : decode cX5_takeNumber 43 = .ok (.aload_n 0, 1) := by decide +kernel
theorem dX5_takeNumber_44 : decode cX5_takeNumber 44 = .ok (.iconst 4, 1) := by decide +kernel
theorem dX5_takeNumber_45 : decode cX5_takeNumber 45 = .ok (.invokevirtual 70, 3) := by decide +kernel
theorem dX5_takeNumber_48 : decode cX5_takeNumber 48 = .ok (.ireturn, 1) := by decide +kernel
theorem dX5_takeNumber_49 : decode cX5_takeNumber 49 = .ok (.aload_n 0, 1) := by decide +kernel
theorem dX5_takeNumber_50 : decode cX5_takeNumber 50 = .ok (.aload_n 0, 1) := by decide +kernel
theorem dX5_takeNumber_51 : decode cX5_takeNumber 51 = .ok (.getfield 17, 3) := by decide +kernel
theorem dX5_takeNumber_54 : decode cX5_takeNumber 54 = .ok (.getfield 114, 3) := by decide +kernel
theorem dX5_takeNumber_57 : decode cX5_takeNumber 57 = .ok (.l2i, 1) := by decide +kernel
theorem dX5_takeNumber_58 : decode cX5_takeNumber 58 = .ok (.putfield 118, 3) := by decide +kernel
theorem dX5_takeNumber_61 : decode cX5_takeNumber 61 = .ok (.aload_n 0, 1) := by decide +kernel
theorem dX5_takeNumber_62 : decode cX5_takeNumber 62 = .ok (.getfield 17, 3) := by decide +kernel
theorem dX5_takeNumber_65 : decode cX5_takeNumber 65 = .ok (.invokevirtual 111, 3) := by decide +kernel
theorem dX5_takeNumber_68 : decode cX5_takeNumber 68 = .ok (.iconst 1, 1) := by decide +kernel
theorem dX5_takeNumber_69 : decode cX5_takeNumber 69 = .ok (.ireturn, 1) := by decide +kernel
theorem dX5_isName_0 : decode cX5_isName 0 = .ok (.aload_n 0, 1) := by decide +kernel
theorem dX5_isName_1 : decode cX5_isName 1 = .ok (.getfield 17, 3) := by decide +kernel
theorem dX5_isName_4 : decode cX5_isName 4 = .ok (.getfield 34, 3) := by decide +kernel
theorem dX5_isName_7 : decode cX5_isName 7 = .ok (.iconst 2, 1) := by decide +kernel
theorem dX5_isName_8 : decode cX5_isName 8 = .ok (.if_icmp .ne 20, 3) := by decide +kernel
theorem dX5_isName_11 : decode cX5_isName 11 = .ok (.aload_n 0, 1) := by decide +kernel
theorem dX5_isName_12 : decode cX5_isName 12 = .ok (.getfield 17, 3) := by decide +kernel
theorem dX5_isName_15 : decode cX5_isName 15 = .ok (.ldc 121, 2) := by decide +kernel
theorem dX5_isName_17 : decode cX5_isName 17 = .ok (.invokevirtual 42, 3) := by decide +kernel
theorem dX5_isName_20 : decode cX5_isName 20 = .ok (.iconst (-1), 1) := by decide +kernel
theorem dX5_isName_21 : decode cX5_isName 21 = .ok (.if_icmp .ne 7, 3) := by decide +kernel
theorem dX5_isName_24 : decode cX5_isName 24 = .ok (.iconst 1, 1) := by decide +kernel
theorem dX5_isName_25 : decode cX5_isName 25 = .ok (.goto 4, 3) := by decide +kernel
theorem dX5_isName_28 : decode cX5_isName 28 = .ok (.iconst 0, 1) := by decide +kernel
theorem dX5_isName_29 : decode cX5_isName 29 = .ok (.ireturn, 1) := by decide +kernel
theorem dX5_takeNewName_0 : decode cX5_takeNewName 0 = .ok (.aload_n 0, 1) := by decide +kernel
theorem dX5_takeNewName_1 : decode cX5_takeNewName 1 = .ok (.invokevirtual 123, 3) := by decide +kernel
theorem dX5_takeNewName_4 : decode cX5_takeNewName 4 = .ok (.ifCond .ne 9, 3) := by decide +kernel
theorem dX5_takeNewName_7 : decode cX5_takeNewName 7 = .ok (.aload_n 0, 1) := by decide +kernel
theorem dX5_takeNewName_8 : decode cX5_takeNewName 8 = .ok (.iconst 1, 1) := by decide +kernel
theorem dX5_takeNewName_9 : decode cX5_takeNewName 9 = .ok (.invokevirtual 70, 3) := by decide +kernel
theorem dX5_takeNewName_12 : decode cX5_takeNewName 12 = .ok (.ireturn, 1) := by decide +kernel
theorem dX5_takeNewName_13 : decode cX5_takeNewName 13 = .ok (.aload_n 0, 1) := by decide +kernel
theorem dX5_takeNewName_14 : decode cX5_takeNewName 14 = .ok (.getfield 94, 3) := by decide +kernel
theorem dX5_takeNewName_17 : decode cX5_takeNewName 17 = .ok (.aload_n 0, 1) := by decide +kernel
theorem dX5_takeNewName_18 : decode cX5_takeNewName 18 = .ok (.getfield 17, 3) := by decide +kernel
theorem dX5_takeNewName_21 : decode cX5_takeNewName 21 = .ok (.getfield 114, 3) := by decide +kernel
theorem dX5_takeNewName_24 : decode cX5_takeNewName 24 = .ok (.invokevirtual 126, 3) := by decide +kernel
theorem dX5_takeNewName_27 : decode cX5_takeNewName 27 = .ok (.ifCond .eq 9, 3) := by decide +kernel
theorem dX5_takeNewName_30 : decode cX5_takeNewName 30 = .ok (.aload_n 0, 1) := by decide +kernel
theorem dX5_takeNewName_31 : decode cX5_takeNewName 31 = .ok (.iconst 3, 1) := by decide +kernel
theorem dX5_takeNewName_32 : decode cX5_takeNewName 32 = .ok (.invokevirtual 70, 3) := by decide +kernel
theorem dX5_takeNewName_35 : decode cX5_takeNewName 35 = .ok (.ireturn, 1) := by decide +kernel
theorem dX5_takeNewName_36 : decode cX5_takeNewName 36 = .ok (.aload_n 0, 1) := by decide +kernel
theorem dX5_takeNewName_37 : decode cX5_takeNewName 37 = .ok (.getfield 94, 3) := by decide +kernel
theorem dX5_takeNewName_40 : decode cX5_takeNewName 40 = .ok (.getfield 130, 3) := by decide +kernel
theorem dX5_takeNewName_43 : decode cX5_takeNewName 43 = .ok (.iload_n 1, 1) := by decide +kernel
theorem dX5_takeNewName_44 : decode cX5_takeNewName 44 = .ok (.aload_n 0, 1) := by decide +kernel
theorem dX5_takeNewName_45 : decode cX5_takeNewName 45 = .ok (.getfield 17, 3) := by decide +kernel
theorem dX5_takeNewName_48 : decode cX5_takeNewName 48 = .ok (.getfield 114, 3) := by decide +kernel
theorem dX5_takeNewName_51 : decode cX5_takeNewName 51 = .ok (.lastore, 1) := by decide +kernel
theorem dX5_takeNewName_52 : decode cX5_takeNewName 52 = .ok (.aload_n 0, 1) := by decide +kernel
theorem dX5_takeNewName_53 : decode cX5_takeNewName 53 = .ok (.getfield 17, 3) := by decide +kernel
theorem dX5_takeNewName_56 : decode cX5_takeNewName 56 = .ok (.invokevirtual 111, 3) := by decide +kernel
theorem dX5_takeNewName_59 : decode cX5_takeNewName 59 = .ok (.iconst 1, 1) := by decide +kernel
theorem dX5_takeNewName_60 : decode cX5_takeNewName 60 = .ok (.ireturn, 1) := by decide +kernel
theorem dX5_takeRider_0 : decode cX5_takeRider 0 = .ok (.aload_n 0, 1) := by decide +kernel
theorem dX5_takeRider_1 : decode cX5_takeRider 1 = .ok (.invokevirtual 123, 3) := by decide +kernel
theorem dX5_takeRider_4 : decode cX5_takeRider 4 = .ok (.ifCond .ne 9, 3) := by decide +kernel
theorem dX5_takeRider_7 : decode cX5_takeRider 7 = .ok (.aload_n 0, 1) := by decide +kernel
theorem dX5_takeRider_8 : decode cX5_takeRider 8 = .ok (.iconst 1, 1) := by decide +kernel
theorem dX5_takeRider_9 : decode cX5_takeRider 9 = .ok (.invokevirtual 70, 3) := by decide +kernel
theorem dX5_takeRider_12 : decode cX5_takeRider 12 = .ok (.ireturn, 1) := by decide +kernel
theorem dX5_takeRider_13 : decode cX5_takeRider 13 = .ok (.aload_n 0, 1) := by decide +kernel
theorem dX5_takeRider_14 : decode cX5_takeRider 14 = .ok (.aload_n 0, 1) := by decide +kernel
theorem dX5_takeRider_15 : decode cX5_takeRider 15 = .ok (.getfield 94, 3) := by decide +kernel
theorem dX5_takeRider_18 : decode cX5_takeRider 18 = .ok (.aload_n 0, 1) := by decide +kernel
theorem dX5_takeRider_19 : decode cX5_takeRider 19 = .ok (.getfield 17, 3) := by decide +kernel
theorem dX5_takeRider_22 : decode cX5_takeRider 22 = .ok (.getfield 114, 3) := by decide +kernel
theorem dX5_takeRider_25 : decode cX5_takeRider 25 = .ok (.invokevirtual 134, 3) := by decide +kernel
theorem dX5_takeRider_28 : decode cX5_takeRider 28 = .ok (.putfield 138, 3) := by decide +kernel
theorem dX5_takeRider_31 : decode cX5_takeRider 31 = .ok (.aload_n 0, 1) := by decide +kernel
theorem dX5_takeRider_32 : decode cX5_takeRider 32 = .ok (.getfield 138, 3) := by decide +kernel
theorem dX5_takeRider_35 : decode cX5_takeRider 35 = .ok (.iconst (-1), 1) := by decide +kernel
theorem dX5_takeRider_36 : decode cX5_takeRider 36 = .ok (.if_icmp .ne 9, 3) := by decide +kernel
theorem dX5_takeRider_39 : decode cX5_takeRider 39 = .ok (.aload_n 0, 1) := by decide +kernel
theorem dX5_takeRider_40 : decode cX5_takeRider 40 = .ok (.iconst 2, 1) := by decide +kernel
theorem dX5_takeRider_41 : decode cX5_takeRider 41 = .ok (.invokevirtual 70, 3) := by decide +kernel
theorem dX5_takeRider_44 : decode cX5_takeRider 44 = .ok (.ireturn, 1) := by decide +kernel
theorem dX5_takeRider_45 : decode cX5_takeRider 45 = .ok (.aload_n 0, 1) := by decide +kernel
theorem dX5_takeRider_46 : decode cX5_takeRider 46 = .ok (.getfield 17, 3) := by decide +kernel
theorem dX5_takeRider_49 : decode cX5_takeRider 49 = .ok (.invokevirtual 111, 3) := by decide +kernel
theorem dX5_takeRider_52 : decode cX5_takeRider 52 = .ok (.iconst 1, 1) := by decide +kernel
theorem dX5_takeRider_53 : decode cX5_takeRider 53 = .ok (.ireturn, 1) := by decide +kernel
theorem dX5_seatsLine_0 : decode cX5_seatsLine 0 = .ok (.aload_n 0, 1) := by decide +kernel
theorem dX5_seatsLine_1 : decode cX5_seatsLine 1 = .ok (.ldc 141, 2) := by decide +kernel
theorem dX5_seatsLine_3 : decode cX5_seatsLine 3 = .ok (.invokevirtual 143, 3) := by decide +kernel
theorem dX5_seatsLine_6 : decode cX5_seatsLine 6 = .ok (.ifCond .eq 12, 3) := by decide +kernel
theorem dX5_seatsLine_9 : decode cX5_seatsLine 9 = .ok (.aload_n 0, 1) := by decide +kernel
theorem dX5_seatsLine_10 : decode cX5_seatsLine 10 = .ok (.iconst 2, 1) := by decide +kernel
theorem dX5_seatsLine_11 : decode cX5_seatsLine 11 = .ok (.iconst 4, 1) := by decide +kernel
theorem dX5_seatsLine_12 : decode cX5_seatsLine 12 = .ok (.invokevirtual 147, 3) := by decide +kernel
theorem dX5_seatsLine_15 : decode cX5_seatsLine 15 = .ok (.ifCond .ne 5, 3) := by decide +kernel
theorem dX5_seatsLine_18 : decode cX5_seatsLine 18 = .ok (.iconst 0, 1) := by decide +kernel
theorem dX5_seatsLine_19 : decode cX5_seatsLine 19 = .ok (.ireturn, 1) := by decide +kernel
theorem dX5_seatsLine_20 : decode cX5_seatsLine 20 = .ok (.aload_n 0, 1) := by decide +kernel
theorem dX5_seatsLine_21 : decode cX5_seatsLine 21 = .ok (.getfield 94, 3) := by decide +kernel
theorem dX5_seatsLine_24 : decode cX5_seatsLine 24 = .ok (.aload_n 0, 1) := by decide +kernel
theorem dX5_seatsLine_25 : decode cX5_seatsLine 25 = .ok (.getfield 118, 3) := by decide +kernel
theorem dX5_seatsLine_28 : decode cX5_seatsLine 28 = .ok (.putfield 151, 3) := by decide +kernel
theorem dX5_seatsLine_31 : decode cX5_seatsLine 31 = .ok (.aload_n 0, 1) := by decide +kernel
theorem dX5_seatsLine_32 : decode cX5_seatsLine 32 = .ok (.bipush 59, 2) := by decide +kernel
theorem dX5_seatsLine_34 : decode cX5_seatsLine 34 = .ok (.invokevirtual 154, 3) := by decide +kernel
theorem dX5_seatsLine_37 : decode cX5_seatsLine 37 = .ok (.ireturn, 1) := by decide +kernel
theorem dX5_stretchLine_0 : decode cX5_stretchLine 0 = .ok (.aload_n 0, 1) := by decide +kernel
theorem dX5_stretchLine_1 : decode cX5_stretchLine 1 = .ok (.getfield 94, 3) := by decide +kernel
theorem dX5_stretchLine_4 : decode cX5_stretchLine 4 = .ok (.getfield 157, 3) := by decide +kernel
theorem dX5_stretchLine_7 : decode cX5_stretchLine 7 = .ok (.istore_n 1, 1) := by decide +kernel
theorem dX5_stretchLine_8 : decode cX5_stretchLine 8 = .ok (.iload_n 1, 1) := by decide +kernel
theorem dX5_stretchLine_9 : decode cX5_stretchLine 9 = .ok (.iconst 4, 1) := by decide +kernel
theorem dX5_stretchLine_10 : decode cX5_stretchLine 10 = .ok (.if_icmp .lt 9, 3) := by decide +kernel
theorem dX5_stretchLine_13 : decode cX5_stretchLine 13 = .ok (.aload_n 0, 1) := by decide +kernel
theorem dX5_stretchLine_14 : decode cX5_stretchLine 14 = .ok (.iconst 5, 1) := by decide +kernel
theorem dX5_stretchLine_15 : decode cX5_stretchLine 15 = .ok (.invokevirtual 70, 3) := by decide +kernel
theorem dX5_stretchLine_18 : decode cX5_stretchLine 18 = .ok (.ireturn, 1) := by decide +kernel
theorem dX5_stretchLine_19 : decode cX5_stretchLine 19 = .ok (.aload_n 0, 1) := by decide +kernel
theorem dX5_stretchLine_20 : decode cX5_stretchLine 20 = .ok (.getfield 17, 3) := by decide +kernel
theorem dX5_stretchLine_23 : decode cX5_stretchLine 23 = .ok (.invokevirtual 111, 3) := by decide +kernel
theorem dX5_stretchLine_26 : decode cX5_stretchLine 26 = .ok (.aload_n 0, 1) := by decide +kernel
theorem dX5_stretchLine_27 : decode cX5_stretchLine 27 = .ok (.iconst 1, 1) := by decide +kernel
theorem dX5_stretchLine_28 : decode cX5_stretchLine 28 = .ok (.bipush 99, 2) := by decide +kernel
theorem dX5_stretchLine_30 : decode cX5_stretchLine 30 = .ok (.invokevirtual 147, 3) := by decide +kernel
theorem dX5_stretchLine_33 : decode cX5_stretchLine 33 = .ok (.ifCond .ne 5, 3) := by decide +kernel
theorem dX5_stretchLine_36 : decode cX5_stretchLine 36 = .ok (.iconst 0, 1) := by decide +kernel
theorem dX5_stretchLine_37 : decode cX5_stretchLine 37 = .ok (.ireturn, 1) := by decide +kernel
theorem dX5_stretchLine_38 : decode cX5_stretchLine 38 = .ok (.aload_n 0, 1) := by decide +kernel
theorem dX5_stretchLine_39 : decode cX5_stretchLine 39 = .ok (.getfield 94, 3) := by decide +kernel
theorem dX5_stretchLine_42 : decode cX5_stretchLine 42 = .ok (.getfield 160, 3) := by decide +kernel
theorem dX5_stretchLine_45 : decode cX5_stretchLine 45 = .ok (.iload_n 1, 1) := by decide +kernel
theorem dX5_stretchLine_46 : decode cX5_stretchLine 46 = .ok (.iconst 5, 1) := by decide +kernel
theorem dX5_stretchLine_47 : decode cX5_stretchLine 47 = .ok (.imul, 1) := by decide +kernel
theorem dX5_stretchLine_48 : decode cX5_stretchLine 48 = .ok (.aload_n 0, 1) := by decide +kernel
theorem dX5_stretchLine_49 : decode cX5_stretchLine 49 = .ok (.getfield 118, 3) := by decide +kernel
theorem dX5_stretchLine_52 : decode cX5_stretchLine 52 = .ok (.iastore, 1) := by decide +kernel
theorem dX5_stretchLine_53 : decode cX5_stretchLine 53 = .ok (.aload_n 0, 1) := by decide +kernel
theorem dX5_stretchLine_54 : decode cX5_stretchLine 54 = .ok (.ldc 164, 2) := by decide +kernel
theorem dX5_stretchLine_56 : decode cX5_stretchLine 56 = .ok (.invokevirtual 143, 3) := by decide +kernel
theorem dX5_stretchLine_59 : decode cX5_stretchLine 59 = .ok (.ifCond .ne 5, 3) := by decide +kernel
theorem dX5_stretchLine_62 : decode cX5_stretchLine 62 = .ok (.iconst 0, 1) := by decide +kernel
theorem dX5_stretchLine_63 : decode cX5_stretchLine 63 = .ok (.ireturn, 1) := by decide +kernel
theorem dX5_stretchLine_64 : decode cX5_stretchLine 64 = .ok (.iconst 0, 1) := by decide +kernel
theorem dX5_stretchLine_65 : decode cX5_stretchLine 65 = .ok (.istore_n 2, 1) := by decide +kernel
theorem dX5_stretchLine_66 : decode cX5_stretchLine 66 = .ok (.iload_n 2, 1) := by decide +kernel
theorem dX5_stretchLine_67 : decode cX5_stretchLine 67 = .ok (.aload_n 0, 1) := by decide +kernel
theorem dX5_stretchLine_68 : decode cX5_stretchLine 68 = .ok (.getfield 94, 3) := by decide +kernel
theorem dX5_stretchLine_71 : decode cX5_stretchLine 71 = .ok (.getfield 151, 3) := by decide +kernel
theorem dX5_stretchLine_74 : decode cX5_stretchLine 74 = .ok (.if_icmp .ge 40, 3) := by decide +kernel
theorem dX5_stretchLine_77 : decode cX5_stretchLine 77 = .ok (.aload_n 0, 1) := by decide +kernel
theorem dX5_stretchLine_78 : decode cX5_stretchLine 78 = .ok (.iconst 0, 1) := by decide +kernel
theorem dX5_stretchLine_79 : decode cX5_stretchLine 79 = .ok (.bipush 9, 2) := by decide +kernel
theorem dX5_stretchLine_81 : decode cX5_stretchLine 81 = .ok (.invokevirtual 147, 3) := by decide +kernel
theorem dX5_stretchLine_84 : decode cX5_stretchLine 84 = .ok (.ifCond .ne 5, 3) := by decide +kernel
theorem dX5_stretchLine_87 : decode cX5_stretchLine 87 = .ok (.iconst 0, 1) := by decide +kernel
theorem dX5_stretchLine_88 : decode cX5_stretchLine 88 = .ok (.ireturn, 1) := by decide +kernel
theorem dX5_stretchLine_89 : decode cX5_stretchLine 89 = .ok (.aload_n 0, 1) := by decide +kernel
theorem dX5_stretchLine_90 : decode cX5_stretchLine 90 = .ok (.getfield 94, 3) := by decide +kernel
theorem dX5_stretchLine_93 : decode cX5_stretchLine 93 = .ok (.getfield 160, 3) := by decide +kernel
theorem dX5_stretchLine_96 : decode cX5_stretchLine 96 = .ok (.iload_n 1, 1) := by decide +kernel
theorem dX5_stretchLine_97 : decode cX5_stretchLine 97 = .ok (.iconst 5, 1) := by decide +kernel
theorem dX5_stretchLine_98 : decode cX5_stretchLine 98 = .ok (.imul, 1) := by decide +kernel
theorem dX5_stretchLine_99 : decode cX5_stretchLine 99 = .ok (.iconst 1, 1) := by decide +kernel
theorem dX5_stretchLine_100 : decode cX5_stretchLine 100 = .ok (.iadd, 1) := by decide +kernel
theorem dX5_stretchLine_101 : decode cX5_stretchLine 101 = .ok (.iload_n 2, 1) := by decide +kernel
theorem dX5_stretchLine_102 : decode cX5_stretchLine 102 = .ok (.iadd, 1) := by decide +kernel
theorem dX5_stretchLine_103 : decode cX5_stretchLine 103 = .ok (.aload_n 0, 1) := by decide +kernel
theorem dX5_stretchLine_104 : decode cX5_stretchLine 104 = .ok (.getfield 118, 3) := by decide +kernel
theorem dX5_stretchLine_107 : decode cX5_stretchLine 107 = .ok (.iastore, 1) := by decide +kernel
theorem dX5_stretchLine_108 : decode cX5_stretchLine 108 = .ok (.iinc 2 1, 3) := by decide +kernel
theorem dX5_stretchLine_111 : decode cX5_stretchLine 111 = .ok (.goto (-45), 3) := by decide +kernel
theorem dX5_stretchLine_114 : decode cX5_stretchLine 114 = .ok (.aload_n 0, 1) := by decide +kernel
theorem dX5_stretchLine_115 : decode cX5_stretchLine 115 = .ok (.getfield 94, 3) := by decide +kernel
theorem dX5_stretchLine_118 : decode cX5_stretchLine 118 = .ok (.dup, 1) := by decide +kernel
theorem dX5_stretchLine_119 : decode cX5_stretchLine 119 = .ok (.getfield 157, 3) := by decide +kernel
theorem dX5_stretchLine_122 : decode cX5_stretchLine 122 = .ok (.iconst 1, 1) := by decide +kernel
theorem dX5_stretchLine_123 : decode cX5_stretchLine 123 = .ok (.iadd, 1) := by decide +kernel
theorem dX5_stretchLine_124 : decode cX5_stretchLine 124 = .ok (.putfield 157, 3) := by decide +kernel
theorem dX5_stretchLine_127 : decode cX5_stretchLine 127 = .ok (.aload_n 0, 1) := by decide +kernel
theorem dX5_stretchLine_128 : decode cX5_stretchLine 128 = .ok (.bipush 59, 2) := by decide +kernel
theorem dX5_stretchLine_130 : decode cX5_stretchLine 130 = .ok (.invokevirtual 154, 3) := by decide +kernel
theorem dX5_stretchLine_133 : decode cX5_stretchLine 133 = .ok (.ireturn, 1) := by decide +kernel
theorem dX5_riderLine_0 : decode cX5_riderLine 0 = .ok (.aload_n 0, 1) := by decide +kernel
theorem dX5_riderLine_1 : decode cX5_riderLine 1 = .ok (.getfield 94, 3) := by decide +kernel
theorem dX5_riderLine_4 : decode cX5_riderLine 4 = .ok (.getfield 87, 3) := by decide +kernel
theorem dX5_riderLine_7 : decode cX5_riderLine 7 = .ok (.istore_n 1, 1) := by decide +kernel
theorem dX5_riderLine_8 : decode cX5_riderLine 8 = .ok (.iload_n 1, 1) := by decide +kernel
theorem dX5_riderLine_9 : decode cX5_riderLine 9 = .ok (.aload_n 0, 1) := by decide +kernel
theorem dX5_riderLine_10 : decode cX5_riderLine 10 = .ok (.getfield 94, 3) := by decide +kernel
theorem dX5_riderLine_13 : decode cX5_riderLine 13 = .ok (.getfield 151, 3) := by decide +kernel
theorem dX5_riderLine_16 : decode cX5_riderLine 16 = .ok (.if_icmp .lt 9, 3) := by decide +kernel
theorem dX5_riderLine_19 : decode cX5_riderLine 19 = .ok (.aload_n 0, 1) := by decide +kernel
theorem dX5_riderLine_20 : decode cX5_riderLine 20 = .ok (.iconst 5, 1) := by decide +kernel
theorem dX5_riderLine_21 : decode cX5_riderLine 21 = .ok (.invokevirtual 70, 3) := by decide +kernel
theorem dX5_riderLine_24 : decode cX5_riderLine 24 = .ok (.ireturn, 1) := by decide +kernel
theorem dX5_riderLine_25 : decode cX5_riderLine 25 = .ok (.aload_n 0, 1) := by decide +kernel
theorem dX5_riderLine_26 : decode cX5_riderLine 26 = .ok (.getfield 17, 3) := by decide +kernel
theorem dX5_riderLine_29 : decode cX5_riderLine 29 = .ok (.invokevirtual 111, 3) := by decide +kernel
theorem dX5_riderLine_32 : decode cX5_riderLine 32 = .ok (.aload_n 0, 1) := by decide +kernel
theorem dX5_riderLine_33 : decode cX5_riderLine 33 = .ok (.iload_n 1, 1) := by decide +kernel
theorem dX5_riderLine_34 : decode cX5_riderLine 34 = .ok (.invokevirtual 166, 3) := by decide +kernel
theorem dX5_riderLine_37 : decode cX5_riderLine 37 = .ok (.ifCond .ne 5, 3) := by decide +kernel
theorem dX5_riderLine_40 : decode cX5_riderLine 40 = .ok (.iconst 0, 1) := by decide +kernel
theorem dX5_riderLine_41 : decode cX5_riderLine 41 = .ok (.ireturn, 1) := by decide +kernel
theorem dX5_riderLine_42 : decode cX5_riderLine 42 = .ok (.aload_n 0, 1) := by decide +kernel
theorem dX5_riderLine_43 : decode cX5_riderLine 43 = .ok (.getfield 94, 3) := by decide +kernel
theorem dX5_riderLine_46 : decode cX5_riderLine 46 = .ok (.getfield 169, 3) := by decide +kernel
theorem dX5_riderLine_49 : decode cX5_riderLine 49 = .ok (.iload_n 1, 1) := by decide +kernel
theorem dX5_riderLine_50 : decode cX5_riderLine 50 = .ok (.aload_n 0, 1) := by decide +kernel
theorem dX5_riderLine_51 : decode cX5_riderLine 51 = .ok (.getfield 17, 3) := by decide +kernel
theorem dX5_riderLine_54 : decode cX5_riderLine 54 = .ok (.ldc 171, 2) := by decide +kernel
theorem dX5_riderLine_56 : decode cX5_riderLine 56 = .ok (.invokevirtual 42, 3) := by decide +kernel
theorem dX5_riderLine_59 : decode cX5_riderLine 59 = .ok (.iastore, 1) := by decide +kernel
theorem dX5_riderLine_60 : decode cX5_riderLine 60 = .ok (.aload_n 0, 1) := by decide +kernel
theorem dX5_riderLine_61 : decode cX5_riderLine 61 = .ok (.ldc 171, 2) := by decide +kernel
theorem dX5_riderLine_63 : decode cX5_riderLine 63 = .ok (.invokevirtual 143, 3) := by decide +kernel
theorem dX5_riderLine_66 : decode cX5_riderLine 66 = .ok (.ifCond .eq 22, 3) := by decide +kernel
theorem dX5_riderLine_69 : decode cX5_riderLine 69 = .ok (.aload_n 0, 1) := by decide +kernel
theorem dX5_riderLine_70 : decode cX5_riderLine 70 = .ok (.ldc 173, 2) := by decide +kernel
theorem dX5_riderLine_72 : decode cX5_riderLine 72 = .ok (.invokevirtual 143, 3) := by decide +kernel
theorem dX5_riderLine_75 : decode cX5_riderLine 75 = .ok (.ifCond .eq 13, 3) := by decide +kernel
theorem dX5_riderLine_78 : decode cX5_riderLine 78 = .ok (.aload_n 0, 1) := by decide +kernel
theorem dX5_riderLine_79 : decode cX5_riderLine 79 = .ok (.iconst 1, 1) := by decide +kernel
theorem dX5_riderLine_80 : decode cX5_riderLine 80 = .ok (.bipush 9, 2) := by decide +kernel
theorem dX5_riderLine_82 : decode cX5_riderLine 82 = .ok (.invokevirtual 147, 3) := by decide +kernel
theorem dX5_riderLine_85 : decode cX5_riderLine 85 = .ok (.ifCond .ne 5, 3) := by decide +kernel
theorem dX5_riderLine_88 : decode cX5_riderLine 88 = .ok (.iconst 0, 1) := by decide +kernel
theorem dX5_riderLine_89 : decode cX5_riderLine 89 = .ok (.ireturn, 1) := by decide +kernel
theorem dX5_riderLine_90 : decode cX5_riderLine 90 = .ok (.aload_n 0, 1) := by decide +kernel
theorem dX5_riderLine_91 : decode cX5_riderLine 91 = .ok (.getfield 94, 3) := by decide +kernel
theorem dX5_riderLine_94 : decode cX5_riderLine 94 = .ok (.getfield 175, 3) := by decide +kernel
theorem dX5_riderLine_97 : decode cX5_riderLine 97 = .ok (.iload_n 1, 1) := by decide +kernel
theorem dX5_riderLine_98 : decode cX5_riderLine 98 = .ok (.aload_n 0, 1) := by decide +kernel
theorem dX5_riderLine_99 : decode cX5_riderLine 99 = .ok (.getfield 118, 3) := by decide +kernel
theorem dX5_riderLine_102 : decode cX5_riderLine 102 = .ok (.iastore, 1) := by decide +kernel
theorem dX5_riderLine_103 : decode cX5_riderLine 103 = .ok (.aload_n 0, 1) := by decide +kernel
theorem dX5_riderLine_104 : decode cX5_riderLine 104 = .ok (.ldc 178, 2) := by decide +kernel
theorem dX5_riderLine_106 : decode cX5_riderLine 106 = .ok (.invokevirtual 143, 3) := by decide +kernel
theorem dX5_riderLine_109 : decode cX5_riderLine 109 = .ok (.ifCond .eq 14, 3) := by decide +kernel
theorem dX5_riderLine_112 : decode cX5_riderLine 112 = .ok (.aload_n 0, 1) := by decide +kernel
theorem dX5_riderLine_113 : decode cX5_riderLine 113 = .ok (.iconst 0, 1) := by decide +kernel
theorem dX5_riderLine_114 : decode cX5_riderLine 114 = .ok (.sipush 9999, 3) := by decide +kernel
theorem dX5_riderLine_117 : decode cX5_riderLine 117 = .ok (.invokevirtual 147, 3) := by decide +kernel
theorem dX5_riderLine_120 : decode cX5_riderLine 120 = .ok (.ifCond .ne 5, 3) := by decide +kernel
theorem dX5_riderLine_123 : decode cX5_riderLine 123 = .ok (.iconst 0, 1) := by decide +kernel
theorem dX5_riderLine_124 : decode cX5_riderLine 124 = .ok (.ireturn, 1) := by decide +kernel
theorem dX5_riderLine_125 : decode cX5_riderLine 125 = .ok (.aload_n 0, 1) := by decide +kernel
theorem dX5_riderLine_126 : decode cX5_riderLine 126 = .ok (.getfield 94, 3) := by decide +kernel
theorem dX5_riderLine_129 : decode cX5_riderLine 129 = .ok (.getfield 180, 3) := by decide +kernel
theorem dX5_riderLine_132 : decode cX5_riderLine 132 = .ok (.iload_n 1, 1) := by decide +kernel
theorem dX5_riderLine_133 : decode cX5_riderLine 133 = .ok (.aload_n 0, 1) := by decide +kernel
theorem dX5_riderLine_134 : decode cX5_riderLine 134 = .ok (.getfield 118, 3) := by decide +kernel
theorem dX5_riderLine_137 : decode cX5_riderLine 137 = .ok (.iastore, 1) := by decide +kernel
theorem dX5_riderLine_138 : decode cX5_riderLine 138 = .ok (.aload_n 0, 1) := by decide +kernel
theorem dX5_riderLine_139 : decode cX5_riderLine 139 = .ok (.getfield 94, 3) := by decide +kernel
theorem dX5_riderLine_142 : decode cX5_riderLine 142 = .ok (.dup, 1) := by decide +kernel
theorem dX5_riderLine_143 : decode cX5_riderLine 143 = .ok (.getfield 87, 3) := by decide +kernel
theorem dX5_riderLine_146 : decode cX5_riderLine 146 = .ok (.iconst 1, 1) := by decide +kernel
theorem dX5_riderLine_147 : decode cX5_riderLine 147 = .ok (.iadd, 1) := by decide +kernel
theorem dX5_riderLine_148 : decode cX5_riderLine 148 = .ok (.putfield 87, 3) := by decide +kernel
theorem dX5_riderLine_151 : decode cX5_riderLine 151 = .ok (.aload_n 0, 1) := by decide +kernel
theorem dX5_riderLine_152 : decode cX5_riderLine 152 = .ok (.bipush 59, 2) := by decide +kernel
theorem dX5_riderLine_154 : decode cX5_riderLine 154 = .ok (.invokevirtual 154, 3) := by decide +kernel
theorem dX5_riderLine_157 : decode cX5_riderLine 157 = .ok (.ireturn, 1) := by decide +kernel
theorem dX5_apartLine_0 : decode cX5_apartLine 0 = .ok (.aload_n 0, 1) := by decide +kernel
theorem dX5_apartLine_1 : decode cX5_apartLine 1 = .ok (.getfield 17, 3) := by decide +kernel
theorem dX5_apartLine_4 : decode cX5_apartLine 4 = .ok (.invokevirtual 111, 3) := by decide +kernel
theorem dX5_apartLine_7 : decode cX5_apartLine 7 = .ok (.aload_n 0, 1) := by decide +kernel
theorem dX5_apartLine_8 : decode cX5_apartLine 8 = .ok (.invokevirtual 183, 3) := by decide +kernel
theorem dX5_apartLine_11 : decode cX5_apartLine 11 = .ok (.ifCond .ne 5, 3) := by decide +kernel
theorem dX5_apartLine_14 : decode cX5_apartLine 14 = .ok (.iconst 0, 1) := by decide +kernel
theorem dX5_apartLine_15 : decode cX5_apartLine 15 = .ok (.ireturn, 1) := by decide +kernel
theorem dX5_apartLine_16 : decode cX5_apartLine 16 = .ok (.aload_n 0, 1) := by decide +kernel
theorem dX5_apartLine_17 : decode cX5_apartLine 17 = .ok (.getfield 138, 3) := by decide +kernel
theorem dX5_apartLine_20 : decode cX5_apartLine 20 = .ok (.istore_n 1, 1) := by decide +kernel
theorem dX5_apartLine_21 : decode cX5_apartLine 21 = .ok (.aload_n 0, 1) := by decide +kernel
theorem dX5_apartLine_22 : decode cX5_apartLine 22 = .ok (.invokevirtual 183, 3) := by decide +kernel
theorem dX5_apartLine_25 : decode cX5_apartLine 25 = .ok (.ifCond .ne 5, 3) := by decide +kernel
theorem dX5_apartLine_28 : decode cX5_apartLine 28 = .ok (.iconst 0, 1) := by decide +kernel
theorem dX5_apartLine_29 : decode cX5_apartLine 29 = .ok (.ireturn, 1) := by decide +kernel
theorem dX5_apartLine_30 : decode cX5_apartLine 30 = .ok (.aload_n 0, 1) := by decide +kernel
theorem dX5_apartLine_31 : decode cX5_apartLine 31 = .ok (.getfield 138, 3) := by decide +kernel
theorem dX5_apartLine_34 : decode cX5_apartLine 34 = .ok (.iload_n 1, 1) := by decide +kernel
theorem dX5_apartLine_35 : decode cX5_apartLine 35 = .ok (.if_icmp .eq 22, 3) := by decide +kernel
theorem dX5_apartLine_38 : decode cX5_apartLine 38 = .ok (.aload_n 0, 1) := by decide +kernel
theorem dX5_apartLine_39 : decode cX5_apartLine 39 = .ok (.getfield 94, 3) := by decide +kernel
theorem dX5_apartLine_42 : decode cX5_apartLine 42 = .ok (.getfield 186, 3) := by decide +kernel
theorem dX5_apartLine_45 : decode cX5_apartLine 45 = .ok (.iload_n 1, 1) := by decide +kernel
theorem dX5_apartLine_46 : decode cX5_apartLine 46 = .ok (.iaload, 1) := by decide +kernel
theorem dX5_apartLine_47 : decode cX5_apartLine 47 = .ok (.aload_n 0, 1) := by decide +kernel
theorem dX5_apartLine_48 : decode cX5_apartLine 48 = .ok (.getfield 138, 3) := by decide +kernel
theorem dX5_apartLine_51 : decode cX5_apartLine 51 = .ok (.ishr, 1) := by decide +kernel
theorem dX5_apartLine_52 : decode cX5_apartLine 52 = .ok (.iconst 1, 1) := by decide +kernel
theorem dX5_apartLine_53 : decode cX5_apartLine 53 = .ok (.iand, 1) := by decide +kernel
theorem dX5_apartLine_54 : decode cX5_apartLine 54 = .ok (.ifCond .eq 9, 3) := by decide +kernel
theorem dX5_apartLine_57 : decode cX5_apartLine 57 = .ok (.aload_n 0, 1) := by decide +kernel
theorem dX5_apartLine_58 : decode cX5_apartLine 58 = .ok (.iconst 3, 1) := by decide +kernel
theorem dX5_apartLine_59 : decode cX5_apartLine 59 = .ok (.invokevirtual 189, 3) := by decide +kernel
theorem dX5_apartLine_62 : decode cX5_apartLine 62 = .ok (.ireturn, 1) := by decide +kernel
theorem dX5_apartLine_63 : decode cX5_apartLine 63 = .ok (.aload_n 0, 1) := by decide +kernel
theorem dX5_apartLine_64 : decode cX5_apartLine 64 = .ok (.getfield 94, 3) := by decide +kernel
theorem dX5_apartLine_67 : decode cX5_apartLine 67 = .ok (.getfield 186, 3) := by decide +kernel
theorem dX5_apartLine_70 : decode cX5_apartLine 70 = .ok (.iload_n 1, 1) := by decide +kernel
theorem dX5_apartLine_71 : decode cX5_apartLine 71 = .ok (.dup2, 1) := by decide +kernel
theorem dX5_apartLine_72 : decode cX5_apartLine 72 = .ok (.iaload, 1) := by decide +kernel
theorem dX5_apartLine_73 : decode cX5_apartLine 73 = .ok (.iconst 1, 1) := by decide +kernel
theorem dX5_apartLine_74 : decode cX5_apartLine 74 = .ok (.aload_n 0, 1) := by decide +kernel
theorem dX5_apartLine_75 : decode cX5_apartLine 75 = .ok (.getfield 138, 3) := by decide +kernel
theorem dX5_apartLine_78 : decode cX5_apartLine 78 = .ok (.ishl, 1) := by decide +kernel
theorem dX5_apartLine_79 : decode cX5_apartLine 79 = .ok (.ior, 1) := by decide +kernel
theorem dX5_apartLine_80 : decode cX5_apartLine 80 = .ok (.iastore, 1) := by decide +kernel
theorem dX5_apartLine_81 : decode cX5_apartLine 81 = .ok (.aload_n 0, 1) := by decide +kernel
theorem dX5_apartLine_82 : decode cX5_apartLine 82 = .ok (.getfield 94, 3) := by decide +kernel
theorem dX5_apartLine_85 : decode cX5_apartLine 85 = .ok (.getfield 186, 3) := by decide +kernel
theorem dX5_apartLine_88 : decode cX5_apartLine 88 = .ok (.aload_n 0, 1) := by decide +kernel
theorem dX5_apartLine_89 : decode cX5_apartLine 89 = .ok (.getfield 138, 3) := by decide +kernel
theorem dX5_apartLine_92 : decode cX5_apartLine 92 = .ok (.dup2, 1) := by decide +kernel
theorem dX5_apartLine_93 : decode cX5_apartLine 93 = .ok (.iaload, 1) := by decide +kernel
theorem dX5_apartLine_94 : decode cX5_apartLine 94 = .ok (.iconst 1, 1) := by decide +kernel
theorem dX5_apartLine_95 : decode cX5_apartLine 95 = .ok (.iload_n 1, 1) := by decide +kernel
theorem dX5_apartLine_96 : decode cX5_apartLine 96 = .ok (.ishl, 1) := by decide +kernel
theorem dX5_apartLine_97 : decode cX5_apartLine 97 = .ok (.ior, 1) := by decide +kernel
theorem dX5_apartLine_98 : decode cX5_apartLine 98 = .ok (.iastore, 1) := by decide +kernel
theorem dX5_apartLine_99 : decode cX5_apartLine 99 = .ok (.aload_n 0, 1) := by decide +kernel
theorem dX5_apartLine_100 : decode cX5_apartLine 100 = .ok (.bipush 59, 2) := by decide +kernel
theorem dX5_apartLine_102 : decode cX5_apartLine 102 = .ok (.invokevirtual 154, 3) := by decide +kernel
theorem dX5_apartLine_105 : decode cX5_apartLine 105 = .ok (.ireturn, 1) := by decide +kernel
theorem dX5_neverLine_0 : decode cX5_neverLine 0 = .ok (.aload_n 0, 1) := by decide +kernel
theorem dX5_neverLine_1 : decode cX5_neverLine 1 = .ok (.getfield 17, 3) := by decide +kernel
theorem dX5_neverLine_4 : decode cX5_neverLine 4 = .ok (.invokevirtual 111, 3) := by decide +kernel
theorem dX5_neverLine_7 : decode cX5_neverLine 7 = .ok (.aload_n 0, 1) := by decide +kernel
theorem dX5_neverLine_8 : decode cX5_neverLine 8 = .ok (.invokevirtual 183, 3) := by decide +kernel
theorem dX5_neverLine_11 : decode cX5_neverLine 11 = .ok (.ifCond .eq 20, 3) := by decide +kernel
theorem dX5_neverLine_14 : decode cX5_neverLine 14 = .ok (.aload_n 0, 1) := by decide +kernel
theorem dX5_neverLine_15 : decode cX5_neverLine 15 = .ok (.iconst 0, 1) := by decide +kernel
theorem dX5_neverLine_16 : decode cX5_neverLine 16 = .ok (.aload_n 0, 1) := by decide +kernel
theorem dX5_neverLine_17 : decode cX5_neverLine 17 = .ok (.getfield 94, 3) := by decide +kernel
theorem dX5_neverLine_20 : decode cX5_neverLine 20 = .ok (.getfield 151, 3) := by decide +kernel
theorem dX5_neverLine_23 : decode cX5_neverLine 23 = .ok (.iconst 1, 1) := by decide +kernel
theorem dX5_neverLine_24 : decode cX5_neverLine 24 = .ok (.isub, 1) := by decide +kernel
theorem dX5_neverLine_25 : decode cX5_neverLine 25 = .ok (.invokevirtual 147, 3) := by decide +kernel
theorem dX5_neverLine_28 : decode cX5_neverLine 28 = .ok (.ifCond .ne 5, 3) := by decide +kernel
theorem dX5_neverLine_31 : decode cX5_neverLine 31 = .ok (.iconst 0, 1) := by decide +kernel
theorem dX5_neverLine_32 : decode cX5_neverLine 32 = .ok (.ireturn, 1) := by decide +kernel
theorem dX5_neverLine_33 : decode cX5_neverLine 33 = .ok (.aload_n 0, 1) := by decide +kernel
theorem dX5_neverLine_34 : decode cX5_neverLine 34 = .ok (.getfield 94, 3) := by decide +kernel
theorem dX5_neverLine_37 : decode cX5_neverLine 37 = .ok (.getfield 192, 3) := by decide +kernel
theorem dX5_neverLine_40 : decode cX5_neverLine 40 = .ok (.aload_n 0, 1) := by decide +kernel
theorem dX5_neverLine_41 : decode cX5_neverLine 41 = .ok (.getfield 138, 3) := by decide +kernel
theorem dX5_neverLine_44 : decode cX5_neverLine 44 = .ok (.iaload, 1) := by decide +kernel
theorem dX5_neverLine_45 : decode cX5_neverLine 45 = .ok (.aload_n 0, 1) := by decide +kernel
theorem dX5_neverLine_46 : decode cX5_neverLine 46 = .ok (.getfield 118, 3) := by decide +kernel
theorem dX5_neverLine_49 : decode cX5_neverLine 49 = .ok (.ishr, 1) := by decide +kernel
theorem dX5_neverLine_50 : decode cX5_neverLine 50 = .ok (.iconst 1, 1) := by decide +kernel
theorem dX5_neverLine_51 : decode cX5_neverLine 51 = .ok (.iand, 1) := by decide +kernel
theorem dX5_neverLine_52 : decode cX5_neverLine 52 = .ok (.ifCond .eq 9, 3) := by decide +kernel
theorem dX5_neverLine_55 : decode cX5_neverLine 55 = .ok (.aload_n 0, 1) := by decide +kernel
theorem dX5_neverLine_56 : decode cX5_neverLine 56 = .ok (.iconst 3, 1) := by decide +kernel
theorem dX5_neverLine_57 : decode cX5_neverLine 57 = .ok (.invokevirtual 189, 3) := by decide +kernel
theorem dX5_neverLine_60 : decode cX5_neverLine 60 = .ok (.ireturn, 1) := by decide +kernel
theorem dX5_neverLine_61 : decode cX5_neverLine 61 = .ok (.aload_n 0, 1) := by decide +kernel
theorem dX5_neverLine_62 : decode cX5_neverLine 62 = .ok (.getfield 94, 3) := by decide +kernel
theorem dX5_neverLine_65 : decode cX5_neverLine 65 = .ok (.getfield 192, 3) := by decide +kernel
theorem dX5_neverLine_68 : decode cX5_neverLine 68 = .ok (.aload_n 0, 1) := by decide +kernel
theorem dX5_neverLine_69 : decode cX5_neverLine 69 = .ok (.getfield 138, 3) := by decide +kernel
theorem dX5_neverLine_72 : decode cX5_neverLine 72 = .ok (.dup2, 1) := by decide +kernel
theorem dX5_neverLine_73 : decode cX5_neverLine 73 = .ok (.iaload, 1) := by decide +kernel
theorem dX5_neverLine_74 : decode cX5_neverLine 74 = .ok (.iconst 1, 1) := by decide +kernel
theorem dX5_neverLine_75 : decode cX5_neverLine 75 = .ok (.aload_n 0, 1) := by decide +kernel
theorem dX5_neverLine_76 : decode cX5_neverLine 76 = .ok (.getfield 118, 3) := by decide +kernel
theorem dX5_neverLine_79 : decode cX5_neverLine 79 = .ok (.ishl, 1) := by decide +kernel
theorem dX5_neverLine_80 : decode cX5_neverLine 80 = .ok (.ior, 1) := by decide +kernel
theorem dX5_neverLine_81 : decode cX5_neverLine 81 = .ok (.iastore, 1) := by decide +kernel
theorem dX5_neverLine_82 : decode cX5_neverLine 82 = .ok (.aload_n 0, 1) := by decide +kernel
theorem dX5_neverLine_83 : decode cX5_neverLine 83 = .ok (.bipush 59, 2) := by decide +kernel
theorem dX5_neverLine_85 : decode cX5_neverLine 85 = .ok (.invokevirtual 154, 3) := by decide +kernel
theorem dX5_neverLine_88 : decode cX5_neverLine 88 = .ok (.ireturn, 1) := by decide +kernel
theorem dX5_gapLine_0 : decode cX5_gapLine 0 = .ok (.aload_n 0, 1) := by decide +kernel
theorem dX5_gapLine_1 : decode cX5_gapLine 1 = .ok (.getfield 17, 3) := by decide +kernel
theorem dX5_gapLine_4 : decode cX5_gapLine 4 = .ok (.invokevirtual 111, 3) := by decide +kernel
theorem dX5_gapLine_7 : decode cX5_gapLine 7 = .ok (.aload_n 0, 1) := by decide +kernel
theorem dX5_gapLine_8 : decode cX5_gapLine 8 = .ok (.iconst 0, 1) := by decide +kernel
theorem dX5_gapLine_9 : decode cX5_gapLine 9 = .ok (.aload_n 0, 1) := by decide +kernel
theorem dX5_gapLine_10 : decode cX5_gapLine 10 = .ok (.getfield 94, 3) := by decide +kernel
theorem dX5_gapLine_13 : decode cX5_gapLine 13 = .ok (.getfield 151, 3) := by decide +kernel
theorem dX5_gapLine_16 : decode cX5_gapLine 16 = .ok (.iconst 2, 1) := by decide +kernel
theorem dX5_gapLine_17 : decode cX5_gapLine 17 = .ok (.isub, 1) := by decide +kernel
theorem dX5_gapLine_18 : decode cX5_gapLine 18 = .ok (.invokevirtual 147, 3) := by decide +kernel
theorem dX5_gapLine_21 : decode cX5_gapLine 21 = .ok (.ifCond .ne 5, 3) := by decide +kernel
theorem dX5_gapLine_24 : decode cX5_gapLine 24 = .ok (.iconst 0, 1) := by decide +kernel
theorem dX5_gapLine_25 : decode cX5_gapLine 25 = .ok (.ireturn, 1) := by decide +kernel
theorem dX5_gapLine_26 : decode cX5_gapLine 26 = .ok (.aload_n 0, 1) := by decide +kernel
theorem dX5_gapLine_27 : decode cX5_gapLine 27 = .ok (.getfield 94, 3) := by decide +kernel
theorem dX5_gapLine_30 : decode cX5_gapLine 30 = .ok (.getfield 195, 3) := by decide +kernel
theorem dX5_gapLine_33 : decode cX5_gapLine 33 = .ok (.aload_n 0, 1) := by decide +kernel
theorem dX5_gapLine_34 : decode cX5_gapLine 34 = .ok (.getfield 118, 3) := by decide +kernel
theorem dX5_gapLine_37 : decode cX5_gapLine 37 = .ok (.ishr, 1) := by decide +kernel
theorem dX5_gapLine_38 : decode cX5_gapLine 38 = .ok (.iconst 1, 1) := by decide +kernel
theorem dX5_gapLine_39 : decode cX5_gapLine 39 = .ok (.iand, 1) := by decide +kernel
theorem dX5_gapLine_40 : decode cX5_gapLine 40 = .ok (.ifCond .eq 9, 3) := by decide +kernel
theorem dX5_gapLine_43 : decode cX5_gapLine 43 = .ok (.aload_n 0, 1) := by decide +kernel
theorem dX5_gapLine_44 : decode cX5_gapLine 44 = .ok (.iconst 3, 1) := by decide +kernel
theorem dX5_gapLine_45 : decode cX5_gapLine 45 = .ok (.invokevirtual 189, 3) := by decide +kernel
theorem dX5_gapLine_48 : decode cX5_gapLine 48 = .ok (.ireturn, 1) := by decide +kernel
theorem dX5_gapLine_49 : decode cX5_gapLine 49 = .ok (.aload_n 0, 1) := by decide +kernel
theorem dX5_gapLine_50 : decode cX5_gapLine 50 = .ok (.getfield 94, 3) := by decide +kernel
theorem dX5_gapLine_53 : decode cX5_gapLine 53 = .ok (.dup, 1) := by decide +kernel
theorem dX5_gapLine_54 : decode cX5_gapLine 54 = .ok (.getfield 195, 3) := by decide +kernel
theorem dX5_gapLine_57 : decode cX5_gapLine 57 = .ok (.iconst 1, 1) := by decide +kernel
theorem dX5_gapLine_58 : decode cX5_gapLine 58 = .ok (.aload_n 0, 1) := by decide +kernel
theorem dX5_gapLine_59 : decode cX5_gapLine 59 = .ok (.getfield 118, 3) := by decide +kernel
theorem dX5_gapLine_62 : decode cX5_gapLine 62 = .ok (.ishl, 1) := by decide +kernel
theorem dX5_gapLine_63 : decode cX5_gapLine 63 = .ok (.ior, 1) := by decide +kernel
theorem dX5_gapLine_64 : decode cX5_gapLine 64 = .ok (.putfield 195, 3) := by decide +kernel
theorem dX5_gapLine_67 : decode cX5_gapLine 67 = .ok (.aload_n 0, 1) := by decide +kernel
theorem dX5_gapLine_68 : decode cX5_gapLine 68 = .ok (.bipush 59, 2) := by decide +kernel
theorem dX5_gapLine_70 : decode cX5_gapLine 70 = .ok (.invokevirtual 154, 3) := by decide +kernel
theorem dX5_gapLine_73 : decode cX5_gapLine 73 = .ok (.ireturn, 1) := by decide +kernel
theorem dX5_fightLine_0 : decode cX5_fightLine 0 = .ok (.aload_n 0, 1) := by decide +kernel
theorem dX5_fightLine_1 : decode cX5_fightLine 1 = .ok (.getfield 94, 3) := by decide +kernel
theorem dX5_fightLine_4 : decode cX5_fightLine 4 = .ok (.getfield 198, 3) := by decide +kernel
theorem dX5_fightLine_7 : decode cX5_fightLine 7 = .ok (.ifCond .eq 9, 3) := by decide +kernel
theorem dX5_fightLine_10 : decode cX5_fightLine 10 = .ok (.aload_n 0, 1) := by decide +kernel
theorem dX5_fightLine_11 : decode cX5_fightLine 11 = .ok (.iconst 3, 1) := by decide +kernel
theorem dX5_fightLine_12 : decode cX5_fightLine 12 = .ok (.invokevirtual 70, 3) := by decide +kernel
theorem dX5_fightLine_15 : decode cX5_fightLine 15 = .ok (.ireturn, 1) := by decide +kernel
theorem dX5_fightLine_16 : decode cX5_fightLine 16 = .ok (.aload_n 0, 1) := by decide +kernel
theorem dX5_fightLine_17 : decode cX5_fightLine 17 = .ok (.getfield 17, 3) := by decide +kernel
theorem dX5_fightLine_20 : decode cX5_fightLine 20 = .ok (.invokevirtual 111, 3) := by decide +kernel
theorem dX5_fightLine_23 : decode cX5_fightLine 23 = .ok (.aload_n 0, 1) := by decide +kernel
theorem dX5_fightLine_24 : decode cX5_fightLine 24 = .ok (.iconst 0, 1) := by decide +kernel
theorem dX5_fightLine_25 : decode cX5_fightLine 25 = .ok (.bipush 99, 2) := by decide +kernel
theorem dX5_fightLine_27 : decode cX5_fightLine 27 = .ok (.invokevirtual 147, 3) := by decide +kernel
theorem dX5_fightLine_30 : decode cX5_fightLine 30 = .ok (.ifCond .ne 5, 3) := by decide +kernel
theorem dX5_fightLine_33 : decode cX5_fightLine 33 = .ok (.iconst 0, 1) := by decide +kernel
theorem dX5_fightLine_34 : decode cX5_fightLine 34 = .ok (.ireturn, 1) := by decide +kernel
theorem dX5_fightLine_35 : decode cX5_fightLine 35 = .ok (.aload_n 0, 1) := by decide +kernel
theorem dX5_fightLine_36 : decode cX5_fightLine 36 = .ok (.getfield 94, 3) := by decide +kernel
theorem dX5_fightLine_39 : decode cX5_fightLine 39 = .ok (.aload_n 0, 1) := by decide +kernel
theorem dX5_fightLine_40 : decode cX5_fightLine 40 = .ok (.getfield 118, 3) := by decide +kernel
theorem dX5_fightLine_43 : decode cX5_fightLine 43 = .ok (.putfield 202, 3) := by decide +kernel
theorem dX5_fightLine_46 : decode cX5_fightLine 46 = .ok (.aload_n 0, 1) := by decide +kernel
theorem dX5_fightLine_47 : decode cX5_fightLine 47 = .ok (.getfield 94, 3) := by decide +kernel
theorem dX5_fightLine_50 : decode cX5_fightLine 50 = .ok (.iconst 1, 1) := by decide +kernel
theorem dX5_fightLine_51 : decode cX5_fightLine 51 = .ok (.putfield 198, 3) := by decide +kernel
theorem dX5_fightLine_54 : decode cX5_fightLine 54 = .ok (.aload_n 0, 1) := by decide +kernel
theorem dX5_fightLine_55 : decode cX5_fightLine 55 = .ok (.bipush 59, 2) := by decide +kernel
theorem dX5_fightLine_57 : decode cX5_fightLine 57 = .ok (.invokevirtual 154, 3) := by decide +kernel
theorem dX5_fightLine_60 : decode cX5_fightLine 60 = .ok (.ireturn, 1) := by decide +kernel
theorem dX5_worthLine_0 : decode cX5_worthLine 0 = .ok (.aload_n 0, 1) := by decide +kernel
theorem dX5_worthLine_1 : decode cX5_worthLine 1 = .ok (.getfield 94, 3) := by decide +kernel
theorem dX5_worthLine_4 : decode cX5_worthLine 4 = .ok (.invokevirtual 205, 3) := by decide +kernel
theorem dX5_worthLine_7 : decode cX5_worthLine 7 = .ok (.ifCond .eq 9, 3) := by decide +kernel
theorem dX5_worthLine_10 : decode cX5_worthLine 10 = .ok (.aload_n 0, 1) := by decide +kernel
theorem dX5_worthLine_11 : decode cX5_worthLine 11 = .ok (.iconst 3, 1) := by decide +kernel
theorem dX5_worthLine_12 : decode cX5_worthLine 12 = .ok (.invokevirtual 70, 3) := by decide +kernel
theorem dX5_worthLine_15 : decode cX5_worthLine 15 = .ok (.ireturn, 1) := by decide +kernel
theorem dX5_worthLine_16 : decode cX5_worthLine 16 = .ok (.aload_n 0, 1) := by decide +kernel
theorem dX5_worthLine_17 : decode cX5_worthLine 17 = .ok (.getfield 17, 3) := by decide +kernel
theorem dX5_worthLine_20 : decode cX5_worthLine 20 = .ok (.invokevirtual 111, 3) := by decide +kernel
theorem dX5_worthLine_23 : decode cX5_worthLine 23 = .ok (.aload_n 0, 1) := by decide +kernel
theorem dX5_worthLine_24 : decode cX5_worthLine 24 = .ok (.iconst 4, 1) := by decide +kernel
theorem dX5_worthLine_25 : decode cX5_worthLine 25 = .ok (.ldc 208, 2) := by decide +kernel
theorem dX5_worthLine_27 : decode cX5_worthLine 27 = .ok (.invokevirtual 210, 3) := by decide +kernel
theorem dX5_worthLine_30 : decode cX5_worthLine 30 = .ok (.ireturn, 1) := by decide +kernel
theorem dX5_ruleLine_0 : decode cX5_ruleLine 0 = .ok (.aload_n 0, 1) := by decide +kernel
theorem dX5_ruleLine_1 : decode cX5_ruleLine 1 = .ok (.getfield 94, 3) := by decide +kernel
theorem dX5_ruleLine_4 : decode cX5_ruleLine 4 = .ok (.getfield 214, 3) := by decide +kernel
theorem dX5_ruleLine_7 : decode cX5_ruleLine 7 = .ok (.istore_n 1, 1) := by decide +kernel
theorem dX5_ruleLine_8 : decode cX5_ruleLine 8 = .ok (.iload_n 1, 1) := by decide +kernel
theorem dX5_ruleLine_9 : decode cX5_ruleLine 9 = .ok (.iconst 4, 1) := by decide +kernel
theorem dX5_ruleLine_10 : decode cX5_ruleLine 10 = .ok (.if_icmp .lt 9, 3) := by decide +kernel
theorem dX5_ruleLine_13 : decode cX5_ruleLine 13 = .ok (.aload_n 0, 1) := by decide +kernel
theorem dX5_ruleLine_14 : decode cX5_ruleLine 14 = .ok (.iconst 5, 1) := by decide +kernel
theorem dX5_ruleLine_15 : decode cX5_ruleLine 15 = .ok (.invokevirtual 70, 3) := by decide +kernel
theorem dX5_ruleLine_18 : decode cX5_ruleLine 18 = .ok (.ireturn, 1) := by decide +kernel
theorem dX5_ruleLine_19 : decode cX5_ruleLine 19 = .ok (.aload_n 0, 1) := by decide +kernel
theorem dX5_ruleLine_20 : decode cX5_ruleLine 20 = .ok (.getfield 17, 3) := by decide +kernel
theorem dX5_ruleLine_23 : decode cX5_ruleLine 23 = .ok (.invokevirtual 111, 3) := by decide +kernel
theorem dX5_ruleLine_26 : decode cX5_ruleLine 26 = .ok (.aload_n 0, 1) := by decide +kernel
theorem dX5_ruleLine_27 : decode cX5_ruleLine 27 = .ok (.iconst 4, 1) := by decide +kernel
theorem dX5_ruleLine_28 : decode cX5_ruleLine 28 = .ok (.iload_n 1, 1) := by decide +kernel
theorem dX5_ruleLine_29 : decode cX5_ruleLine 29 = .ok (.iadd, 1) := by decide +kernel
theorem dX5_ruleLine_30 : decode cX5_ruleLine 30 = .ok (.invokevirtual 166, 3) := by decide +kernel
theorem dX5_ruleLine_33 : decode cX5_ruleLine 33 = .ok (.ifCond .eq 13, 3) := by decide +kernel
theorem dX5_ruleLine_36 : decode cX5_ruleLine 36 = .ok (.aload_n 0, 1) := by decide +kernel
theorem dX5_ruleLine_37 : decode cX5_ruleLine 37 = .ok (.iload_n 1, 1) := by decide +kernel
theorem dX5_ruleLine_38 : decode cX5_ruleLine 38 = .ok (.ldc 217, 2) := by decide +kernel
theorem dX5_ruleLine_40 : decode cX5_ruleLine 40 = .ok (.invokevirtual 210, 3) := by decide +kernel
theorem dX5_ruleLine_43 : decode cX5_ruleLine 43 = .ok (.ifCond .ne 5, 3) := by decide +kernel
theorem dX5_ruleLine_46 : decode cX5_ruleLine 46 = .ok (.iconst 0, 1) := by decide +kernel
theorem dX5_ruleLine_47 : decode cX5_ruleLine 47 = .ok (.ireturn, 1) := by decide +kernel
theorem dX5_ruleLine_48 : decode cX5_ruleLine 48 = .ok (.aload_n 0, 1) := by decide +kernel
theorem dX5_ruleLine_49 : decode cX5_ruleLine 49 = .ok (.getfield 94, 3) := by decide +kernel
theorem dX5_ruleLine_52 : decode cX5_ruleLine 52 = .ok (.dup, 1) := by decide +kernel
theorem dX5_ruleLine_53 : decode cX5_ruleLine 53 = .ok (.getfield 214, 3) := by decide +kernel
theorem dX5_ruleLine_56 : decode cX5_ruleLine 56 = .ok (.iconst 1, 1) := by decide +kernel
theorem dX5_ruleLine_57 : decode cX5_ruleLine 57 = .ok (.iadd, 1) := by decide +kernel
theorem dX5_ruleLine_58 : decode cX5_ruleLine 58 = .ok (.putfield 214, 3) := by decide +kernel
theorem dX5_ruleLine_61 : decode cX5_ruleLine 61 = .ok (.iconst 1, 1) := by decide +kernel
theorem dX5_ruleLine_62 : decode cX5_ruleLine 62 = .ok (.ireturn, 1) := by decide +kernel
theorem dX5_journeyLine_0 : decode cX5_journeyLine 0 = .ok (.aload_n 0, 1) := by decide +kernel
theorem dX5_journeyLine_1 : decode cX5_journeyLine 1 = .ok (.getfield 17, 3) := by decide +kernel
theorem dX5_journeyLine_4 : decode cX5_journeyLine 4 = .ok (.ldc 219, 2) := by decide +kernel
theorem dX5_journeyLine_6 : decode cX5_journeyLine 6 = .ok (.invokevirtual 42, 3) := by decide +kernel
theorem dX5_journeyLine_9 : decode cX5_journeyLine 9 = .ok (.istore_n 2, 1) := by decide +kernel
theorem dX5_journeyLine_10 : decode cX5_journeyLine 10 = .ok (.iload_n 2, 1) := by decide +kernel
theorem dX5_journeyLine_11 : decode cX5_journeyLine 11 = .ok (.iconst (-1), 1) := by decide +kernel
theorem dX5_journeyLine_12 : decode cX5_journeyLine 12 = .ok (.if_icmp .ne 9, 3) := by decide +kernel
theorem dX5_journeyLine_15 : decode cX5_journeyLine 15 = .ok (.aload_n 0, 1) := by decide +kernel
theorem dX5_journeyLine_16 : decode cX5_journeyLine 16 = .ok (.iconst 1, 1) := by decide +kernel
theorem dX5_journeyLine_17 : decode cX5_journeyLine 17 = .ok (.invokevirtual 70, 3) := by decide +kernel
theorem dX5_journeyLine_20 : decode cX5_journeyLine 20 = .ok (.ireturn, 1) := by decide +kernel
theorem dX5_journeyLine_21 : decode cX5_journeyLine 21 = .ok (.aload_n 1, 1) := by decide +kernel
theorem dX5_journeyLine_22 : decode cX5_journeyLine 22 = .ok (.getfield 78, 3) := by decide +kernel
theorem dX5_journeyLine_25 : decode cX5_journeyLine 25 = .ok (.istore_n 3, 1) := by decide +kernel
theorem dX5_journeyLine_26 : decode cX5_journeyLine 26 = .ok (.iload_n 3, 1) := by decide +kernel
theorem dX5_journeyLine_27 : decode cX5_journeyLine 27 = .ok (.bipush 20, 2) := by decide +kernel
theorem dX5_journeyLine_29 : decode cX5_journeyLine 29 = .ok (.if_icmp .lt 9, 3) := by decide +kernel
theorem dX5_journeyLine_32 : decode cX5_journeyLine 32 = .ok (.aload_n 0, 1) := by decide +kernel
theorem dX5_journeyLine_33 : decode cX5_journeyLine 33 = .ok (.iconst 5, 1) := by decide +kernel
theorem dX5_journeyLine_34 : decode cX5_journeyLine 34 = .ok (.invokevirtual 70, 3) := by decide +kernel
theorem dX5_journeyLine_37 : decode cX5_journeyLine 37 = .ok (.ireturn, 1) := by decide +kernel
theorem dX5_journeyLine_38 : decode cX5_journeyLine 38 = .ok (.aload_n 0, 1) := by decide +kernel
theorem dX5_journeyLine_39 : decode cX5_journeyLine 39 = .ok (.getfield 17, 3) := by decide +kernel
theorem dX5_journeyLine_42 : decode cX5_journeyLine 42 = .ok (.invokevirtual 111, 3) := by decide +kernel
theorem dX5_journeyLine_45 : decode cX5_journeyLine 45 = .ok (.aload_n 1, 1) := by decide +kernel
theorem dX5_journeyLine_46 : decode cX5_journeyLine 46 = .ok (.getfield 221, 3) := by decide +kernel
theorem dX5_journeyLine_49 : decode cX5_journeyLine 49 = .ok (.iload_n 3, 1) := by decide +kernel
theorem dX5_journeyLine_50 : decode cX5_journeyLine 50 = .ok (.iconst (-1), 1) := by decide +kernel
theorem dX5_journeyLine_51 : decode cX5_journeyLine 51 = .ok (.iastore, 1) := by decide +kernel
theorem dX5_journeyLine_52 : decode cX5_journeyLine 52 = .ok (.aload_n 1, 1) := by decide +kernel
theorem dX5_journeyLine_53 : decode cX5_journeyLine 53 = .ok (.getfield 223, 3) := by decide +kernel
theorem dX5_journeyLine_56 : decode cX5_journeyLine 56 = .ok (.iload_n 3, 1) := by decide +kernel
theorem dX5_journeyLine_57 : decode cX5_journeyLine 57 = .ok (.iconst (-1), 1) := by decide +kernel
theorem dX5_journeyLine_58 : decode cX5_journeyLine 58 = .ok (.iastore, 1) := by decide +kernel
theorem dX5_journeyLine_59 : decode cX5_journeyLine 59 = .ok (.iload_n 2, 1) := by decide +kernel
theorem dX5_journeyLine_60 : decode cX5_journeyLine 60 = .ok (.ifCond .ne 49, 3) := by decide +kernel
theorem dX5_journeyLine_63 : decode cX5_journeyLine 63 = .ok (.aload_n 0, 1) := by decide +kernel
theorem dX5_journeyLine_64 : decode cX5_journeyLine 64 = .ok (.invokevirtual 183, 3) := by decide +kernel
theorem dX5_journeyLine_67 : decode cX5_journeyLine 67 = .ok (.ifCond .eq 20, 3) := by decide +kernel
theorem dX5_journeyLine_70 : decode cX5_journeyLine 70 = .ok (.aload_n 0, 1) := by decide +kernel
theorem dX5_journeyLine_71 : decode cX5_journeyLine 71 = .ok (.iconst 0, 1) := by decide +kernel
theorem dX5_journeyLine_72 : decode cX5_journeyLine 72 = .ok (.aload_n 0, 1) := by decide +kernel
theorem dX5_journeyLine_73 : decode cX5_journeyLine 73 = .ok (.getfield 94, 3) := by decide +kernel
theorem dX5_journeyLine_76 : decode cX5_journeyLine 76 = .ok (.getfield 151, 3) := by decide +kernel
theorem dX5_journeyLine_79 : decode cX5_journeyLine 79 = .ok (.iconst 1, 1) := by decide +kernel
theorem dX5_journeyLine_80 : decode cX5_journeyLine 80 = .ok (.isub, 1) := by decide +kernel
theorem dX5_journeyLine_81 : decode cX5_journeyLine 81 = .ok (.invokevirtual 147, 3) := by decide +kernel
theorem dX5_journeyLine_84 : decode cX5_journeyLine 84 = .ok (.ifCond .ne 5, 3) := by decide +kernel
theorem dX5_journeyLine_87 : decode cX5_journeyLine 87 = .ok (.iconst 0, 1) := by decide +kernel
theorem dX5_journeyLine_88 : decode cX5_journeyLine 88 = .ok (.ireturn, 1) := by decide +kernel
theorem dX5_journeyLine_89 : decode cX5_journeyLine 89 = .ok (.aload_n 1, 1) := by decide +kernel
theorem dX5_journeyLine_90 : decode cX5_journeyLine 90 = .ok (.getfield 221, 3) := by decide +kernel
theorem dX5_journeyLine_93 : decode cX5_journeyLine 93 = .ok (.iload_n 3, 1) := by decide +kernel
theorem dX5_journeyLine_94 : decode cX5_journeyLine 94 = .ok (.aload_n 0, 1) := by decide +kernel
theorem dX5_journeyLine_95 : decode cX5_journeyLine 95 = .ok (.getfield 138, 3) := by decide +kernel
theorem dX5_journeyLine_98 : decode cX5_journeyLine 98 = .ok (.iastore, 1) := by decide +kernel
theorem dX5_journeyLine_99 : decode cX5_journeyLine 99 = .ok (.aload_n 1, 1) := by decide +kernel
theorem dX5_journeyLine_100 : decode cX5_journeyLine 100 = .ok (.getfield 223, 3) := by decide +kernel
theorem dX5_journeyLine_103 : decode cX5_journeyLine 103 = .ok (.iload_n 3, 1) := by decide +kernel
theorem dX5_journeyLine_104 : decode cX5_journeyLine 104 = .ok (.aload_n 0, 1) := by decide +kernel
theorem dX5_journeyLine_105 : decode cX5_journeyLine 105 = .ok (.getfield 118, 3) := by decide +kernel
theorem dX5_journeyLine_108 : decode cX5_journeyLine 108 = .ok (.iastore, 1) := by decide +kernel
theorem dX5_journeyLine_109 : decode cX5_journeyLine 109 = .ok (.aload_n 1, 1) := by decide +kernel
theorem dX5_journeyLine_110 : decode cX5_journeyLine 110 = .ok (.dup, 1) := by decide +kernel
theorem dX5_journeyLine_111 : decode cX5_journeyLine 111 = .ok (.getfield 78, 3) := by decide +kernel
theorem dX5_journeyLine_114 : decode cX5_journeyLine 114 = .ok (.iconst 1, 1) := by decide +kernel
theorem dX5_journeyLine_115 : decode cX5_journeyLine 115 = .ok (.iadd, 1) := by decide +kernel
theorem dX5_journeyLine_116 : decode cX5_journeyLine 116 = .ok (.putfield 78, 3) := by decide +kernel
theorem dX5_journeyLine_119 : decode cX5_journeyLine 119 = .ok (.aload_n 0, 1) := by decide +kernel
theorem dX5_journeyLine_120 : decode cX5_journeyLine 120 = .ok (.bipush 59, 2) := by decide +kernel
theorem dX5_journeyLine_122 : decode cX5_journeyLine 122 = .ok (.invokevirtual 154, 3) := by decide +kernel
theorem dX5_journeyLine_125 : decode cX5_journeyLine 125 = .ok (.ireturn, 1) := by decide +kernel
theorem dX5_rowLine_0 : decode cX5_rowLine 0 = .ok (.aload_n 0, 1) := by decide +kernel
theorem dX5_rowLine_1 : decode cX5_rowLine 1 = .ok (.ldc 226, 2) := by decide +kernel
theorem dX5_rowLine_3 : decode cX5_rowLine 3 = .ok (.invokevirtual 143, 3) := by decide +kernel
theorem dX5_rowLine_6 : decode cX5_rowLine 6 = .ok (.ifCond .ne 5, 3) := by decide +kernel
theorem dX5_rowLine_9 : decode cX5_rowLine 9 = .ok (.iconst 0, 1) := by decide +kernel
theorem dX5_rowLine_10 : decode cX5_rowLine 10 = .ok (.ireturn, 1) := by decide +kernel
theorem dX5_rowLine_11 : decode cX5_rowLine 11 = .ok (.iconst 0, 1) := by decide +kernel
theorem dX5_rowLine_12 : decode cX5_rowLine 12 = .ok (.istore_n 3, 1) := by decide +kernel
theorem dX5_rowLine_13 : decode cX5_rowLine 13 = .ok (.iload_n 3, 1) := by decide +kernel
theorem dX5_rowLine_14 : decode cX5_rowLine 14 = .ok (.aload_n 0, 1) := by decide +kernel
theorem dX5_rowLine_15 : decode cX5_rowLine 15 = .ok (.getfield 94, 3) := by decide +kernel
theorem dX5_rowLine_18 : decode cX5_rowLine 18 = .ok (.getfield 151, 3) := by decide +kernel
theorem dX5_rowLine_21 : decode cX5_rowLine 21 = .ok (.if_icmp .ge 32, 3) := by decide +kernel
theorem dX5_rowLine_24 : decode cX5_rowLine 24 = .ok (.aload_n 0, 1) := by decide +kernel
theorem dX5_rowLine_25 : decode cX5_rowLine 25 = .ok (.iconst 0, 1) := by decide +kernel
theorem dX5_rowLine_26 : decode cX5_rowLine 26 = .ok (.bipush 99, 2) := by decide +kernel
theorem dX5_rowLine_28 : decode cX5_rowLine 28 = .ok (.invokevirtual 147, 3) := by decide +kernel
theorem dX5_rowLine_31 : decode cX5_rowLine 31 = .ok (.ifCond .ne 5, 3) := by decide +kernel
theorem dX5_rowLine_34 : decode cX5_rowLine 34 = .ok (.iconst 0, 1) := by decide +kernel
theorem dX5_rowLine_35 : decode cX5_rowLine 35 = .ok (.ireturn, 1) := by decide +kernel
theorem dX5_rowLine_36 : decode cX5_rowLine 36 = .ok (.aload_n 1, 1) := by decide +kernel
theorem dX5_rowLine_37 : decode cX5_rowLine 37 = .ok (.iload_n 2, 1) := by decide +kernel
theorem dX5_rowLine_38 : decode cX5_rowLine 38 = .ok (.iconst 4, 1) := by decide +kernel
theorem dX5_rowLine_39 : decode cX5_rowLine 39 = .ok (.imul, 1) := by decide +kernel
theorem dX5_rowLine_40 : decode cX5_rowLine 40 = .ok (.iload_n 3, 1) := by decide +kernel
theorem dX5_rowLine_41 : decode cX5_rowLine 41 = .ok (.iadd, 1) := by decide +kernel
theorem dX5_rowLine_42 : decode cX5_rowLine 42 = .ok (.aload_n 0, 1) := by decide +kernel
theorem dX5_rowLine_43 : decode cX5_rowLine 43 = .ok (.getfield 118, 3) := by decide +kernel
theorem dX5_rowLine_46 : decode cX5_rowLine 46 = .ok (.iastore, 1) := by decide +kernel
theorem dX5_rowLine_47 : decode cX5_rowLine 47 = .ok (.iinc 3 1, 3) := by decide +kernel
theorem dX5_rowLine_50 : decode cX5_rowLine 50 = .ok (.goto (-37), 3) := by decide +kernel
theorem dX5_rowLine_53 : decode cX5_rowLine 53 = .ok (.aload_n 0, 1) := by decide +kernel
theorem dX5_rowLine_54 : decode cX5_rowLine 54 = .ok (.bipush 59, 2) := by decide +kernel
theorem dX5_rowLine_56 : decode cX5_rowLine 56 = .ok (.invokevirtual 154, 3) := by decide +kernel
theorem dX5_rowLine_59 : decode cX5_rowLine 59 = .ok (.ireturn, 1) := by decide +kernel
theorem dX5_law_0 : decode cX5_law 0 = .ok (.aload_n 0, 1) := by decide +kernel
theorem dX5_law_1 : decode cX5_law 1 = .ok (.aload_n 2, 1) := by decide +kernel
theorem dX5_law_2 : decode cX5_law 2 = .ok (.putfield 11, 3) := by decide +kernel
theorem dX5_law_5 : decode cX5_law 5 = .ok (.aload_n 0, 1) := by decide +kernel
theorem dX5_law_6 : decode cX5_law 6 = .ok (.getfield 94, 3) := by decide +kernel
theorem dX5_law_9 : decode cX5_law 9 = .ok (.getfield 228, 3) := by decide +kernel
theorem dX5_law_12 : decode cX5_law 12 = .ok (.iload_n 1, 1) := by decide +kernel
theorem dX5_law_13 : decode cX5_law 13 = .ok (.aload_n 0, 1) := by decide +kernel
theorem dX5_law_14 : decode cX5_law 14 = .ok (.getfield 94, 3) := by decide +kernel
theorem dX5_law_17 : decode cX5_law 17 = .ok (.getfield 231, 3) := by decide +kernel
theorem dX5_law_20 : decode cX5_law 20 = .ok (.getfield 234, 3) := by decide +kernel
theorem dX5_law_23 : decode cX5_law 23 = .ok (.iastore, 1) := by decide +kernel
theorem dX5_law_24 : decode cX5_law 24 = .ok (.aload_n 0, 1) := by decide +kernel
theorem dX5_law_25 : decode cX5_law 25 = .ok (.iconst 0, 1) := by decide +kernel
theorem dX5_law_26 : decode cX5_law 26 = .ok (.iconst 0, 1) := by decide +kernel
theorem dX5_law_27 : decode cX5_law 27 = .ok (.invokevirtual 239, 3) := by decide +kernel
theorem dX5_law_30 : decode cX5_law 30 = .ok (.ifCond .ne 5, 3) := by decide +kernel
theorem dX5_law_33 : decode cX5_law 33 = .ok (.iconst 0, 1) := by decide +kernel
theorem dX5_law_34 : decode cX5_law 34 = .ok (.ireturn, 1) := by decide +kernel
theorem dX5_law_35 : decode cX5_law 35 = .ok (.aload_n 0, 1) := by decide +kernel
theorem dX5_law_36 : decode cX5_law 36 = .ok (.getfield 94, 3) := by decide +kernel
theorem dX5_law_39 : decode cX5_law 39 = .ok (.getfield 242, 3) := by decide +kernel
theorem dX5_law_42 : decode cX5_law 42 = .ok (.iload_n 1, 1) := by decide +kernel
theorem dX5_law_43 : decode cX5_law 43 = .ok (.aload_n 0, 1) := by decide +kernel
theorem dX5_law_44 : decode cX5_law 44 = .ok (.getfield 94, 3) := by decide +kernel
theorem dX5_law_47 : decode cX5_law 47 = .ok (.getfield 231, 3) := by decide +kernel
theorem dX5_law_50 : decode cX5_law 50 = .ok (.getfield 234, 3) := by decide +kernel
theorem dX5_law_53 : decode cX5_law 53 = .ok (.iastore, 1) := by decide +kernel
theorem dX5_law_54 : decode cX5_law 54 = .ok (.aload_n 0, 1) := by decide +kernel
theorem dX5_law_55 : decode cX5_law 55 = .ok (.bipush 59, 2) := by decide +kernel
theorem dX5_law_57 : decode cX5_law 57 = .ok (.invokevirtual 154, 3) := by decide +kernel
theorem dX5_law_60 : decode cX5_law 60 = .ok (.ireturn, 1) := by decide +kernel
theorem dX5_expression_0 : decode cX5_expression 0 = .ok (.iload_n 2, 1) := by decide +kernel
theorem dX5_expression_1 : decode cX5_expression 1 = .ok (.iconst 4, 1) := by decide +kernel
theorem dX5_expression_2 : decode cX5_expression 2 = .ok (.if_icmp .lt 9, 3) := by decide +kernel
theorem dX5_expression_5 : decode cX5_expression 5 = .ok (.aload_n 0, 1) := by decide +kernel
theorem dX5_expression_6 : decode cX5_expression 6 = .ok (.iload_n 1, 1) := by decide +kernel
theorem dX5_expression_7 : decode cX5_expression 7 = .ok (.invokevirtual 245, 3) := by decide +kernel
theorem dX5_expression_10 : decode cX5_expression 10 = .ok (.ireturn, 1) := by decide +kernel
theorem dX5_expression_11 : decode cX5_expression 11 = .ok (.aload_n 0, 1) := by decide +kernel
theorem dX5_expression_12 : decode cX5_expression 12 = .ok (.iload_n 1, 1) := by decide +kernel
theorem dX5_expression_13 : decode cX5_expression 13 = .ok (.iload_n 2, 1) := by decide +kernel
theorem dX5_expression_14 : decode cX5_expression 14 = .ok (.iconst 1, 1) := by decide +kernel
theorem dX5_expression_15 : decode cX5_expression 15 = .ok (.iadd, 1) := by decide +kernel
theorem dX5_expression_16 : decode cX5_expression 16 = .ok (.invokevirtual 239, 3) := by decide +kernel
theorem dX5_expression_19 : decode cX5_expression 19 = .ok (.ifCond .ne 5, 3) := by decide +kernel
theorem dX5_expression_22 : decode cX5_expression 22 = .ok (.iconst 0, 1) := by decide +kernel
theorem dX5_expression_23 : decode cX5_expression 23 = .ok (.ireturn, 1) := by decide +kernel
theorem dX5_expression_24 : decode cX5_expression 24 = .ok (.aload_n 0, 1) := by decide +kernel
theorem dX5_expression_25 : decode cX5_expression 25 = .ok (.iload_n 2, 1) := by decide +kernel
theorem dX5_expression_26 : decode cX5_expression 26 = .ok (.invokevirtual 248, 3) := by decide +kernel
theorem dX5_expression_29 : decode cX5_expression 29 = .ok (.istore_n 3, 1) := by decide +kernel
theorem dX5_expression_30 : decode cX5_expression 30 = .ok (.iconst 0, 1) := by decide +kernel
