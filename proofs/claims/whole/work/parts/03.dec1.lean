theorem dX5_expression_31 : decode cX5_expression 31 = .ok (.istore 4, 2) := by decide +kernel
theorem dX5_expression_33 : decode cX5_expression 33 = .ok (.iload_n 3, 1) := by decide +kernel
theorem dX5_expression_34 : decode cX5_expression 34 = .ok (.iconst (-1), 1) := by decide +kernel
theorem dX5_expression_35 : decode cX5_expression 35 = .ok (.if_icmp .eq 63, 3) := by decide +kernel
theorem dX5_expression_38 : decode cX5_expression 38 = .ok (.iload 4, 2) := by decide +kernel
theorem dX5_expression_40 : decode cX5_expression 40 = .ok (.sipush 1000, 3) := by decide +kernel
theorem dX5_expression_43 : decode cX5_expression 43 = .ok (.if_icmp .ge 55, 3) := by decide +kernel
theorem dX5_expression_46 : decode cX5_expression 46 = .ok (.aload_n 0, 1) := by decide +kernel
theorem dX5_expression_47 : decode cX5_expression 47 = .ok (.getfield 17, 3) := by decide +kernel
theorem dX5_expression_50 : decode cX5_expression 50 = .ok (.invokevirtual 111, 3) := by decide +kernel
theorem dX5_expression_53 : decode cX5_expression 53 = .ok (.aload_n 0, 1) := by decide +kernel
theorem dX5_expression_54 : decode cX5_expression 54 = .ok (.iload_n 1, 1) := by decide +kernel
theorem dX5_expression_55 : decode cX5_expression 55 = .ok (.iload_n 2, 1) := by decide +kernel
theorem dX5_expression_56 : decode cX5_expression 56 = .ok (.iconst 1, 1) := by decide +kernel
theorem dX5_expression_57 : decode cX5_expression 57 = .ok (.iadd, 1) := by decide +kernel
theorem dX5_expression_58 : decode cX5_expression 58 = .ok (.invokevirtual 239, 3) := by decide +kernel
theorem dX5_expression_61 : decode cX5_expression 61 = .ok (.ifCond .ne 5, 3) := by decide +kernel
theorem dX5_expression_64 : decode cX5_expression 64 = .ok (.iconst 0, 1) := by decide +kernel
theorem dX5_expression_65 : decode cX5_expression 65 = .ok (.ireturn, 1) := by decide +kernel
theorem dX5_expression_66 : decode cX5_expression 66 = .ok (.aload_n 0, 1) := by decide +kernel
theorem dX5_expression_67 : decode cX5_expression 67 = .ok (.getfield 94, 3) := by decide +kernel
theorem dX5_expression_70 : decode cX5_expression 70 = .ok (.getfield 231, 3) := by decide +kernel
theorem dX5_expression_73 : decode cX5_expression 73 = .ok (.iload_n 3, 1) := by decide +kernel
theorem dX5_expression_74 : decode cX5_expression 74 = .ok (.invokevirtual 252, 3) := by decide +kernel
theorem dX5_expression_77 : decode cX5_expression 77 = .ok (.iload_n 2, 1) := by decide +kernel
theorem dX5_expression_78 : decode cX5_expression 78 = .ok (.iconst 1, 1) := by decide +kernel
theorem dX5_expression_79 : decode cX5_expression 79 = .ok (.if_icmp .ne 7, 3) := by decide +kernel
theorem dX5_expression_82 : decode cX5_expression 82 = .ok (.iconst (-1), 1) := by decide +kernel
theorem dX5_expression_83 : decode cX5_expression 83 = .ok (.goto 8, 3) := by decide +kernel
theorem dX5_expression_86 : decode cX5_expression 86 = .ok (.aload_n 0, 1) := by decide +kernel
theorem dX5_expression_87 : decode cX5_expression 87 = .ok (.iload_n 2, 1) := by decide +kernel
theorem dX5_expression_88 : decode cX5_expression 88 = .ok (.invokevirtual 248, 3) := by decide +kernel
theorem dX5_expression_91 : decode cX5_expression 91 = .ok (.istore_n 3, 1) := by decide +kernel
theorem dX5_expression_92 : decode cX5_expression 92 = .ok (.iinc 4 1, 3) := by decide +kernel
theorem dX5_expression_95 : decode cX5_expression 95 = .ok (.goto (-62), 3) := by decide +kernel
theorem dX5_expression_98 : decode cX5_expression 98 = .ok (.iconst 1, 1) := by decide +kernel
theorem dX5_expression_99 : decode cX5_expression 99 = .ok (.ireturn, 1) := by decide +kernel
theorem dX5_operatorOf_0 : decode cX5_operatorOf 0 = .ok (.iload_n 1, 1) := by decide +kernel
theorem dX5_operatorOf_1 : decode cX5_operatorOf 1 = .ok (.ifCond .ne 29, 3) := by decide +kernel
theorem dX5_operatorOf_4 : decode cX5_operatorOf 4 = .ok (.aload_n 0, 1) := by decide +kernel
theorem dX5_operatorOf_5 : decode cX5_operatorOf 5 = .ok (.getfield 17, 3) := by decide +kernel
theorem dX5_operatorOf_8 : decode cX5_operatorOf 8 = .ok (.ldc_w 256, 3) := by decide +kernel
theorem dX5_operatorOf_11 : decode cX5_operatorOf 11 = .ok (.invokevirtual 42, 3) := by decide +kernel
theorem dX5_operatorOf_14 : decode cX5_operatorOf 14 = .ok (.istore_n 2, 1) := by decide +kernel
theorem dX5_operatorOf_15 : decode cX5_operatorOf 15 = .ok (.iload_n 2, 1) := by decide +kernel
theorem dX5_operatorOf_16 : decode cX5_operatorOf 16 = .ok (.iconst (-1), 1) := by decide +kernel
theorem dX5_operatorOf_17 : decode cX5_operatorOf 17 = .ok (.if_icmp .ne 7, 3) := by decide +kernel
theorem dX5_operatorOf_20 : decode cX5_operatorOf 20 = .ok (.iconst (-1), 1) := by decide +kernel
theorem dX5_operatorOf_21 : decode cX5_operatorOf 21 = .ok (.goto 8, 3) := by decide +kernel
theorem dX5_operatorOf_24 : decode cX5_operatorOf 24 = .ok (.sipush 20001, 3) := by decide +kernel
theorem dX5_operatorOf_27 : decode cX5_operatorOf 27 = .ok (.iload_n 2, 1) := by decide +kernel
theorem dX5_operatorOf_28 : decode cX5_operatorOf 28 = .ok (.iadd, 1) := by decide +kernel
theorem dX5_operatorOf_29 : decode cX5_operatorOf 29 = .ok (.ireturn, 1) := by decide +kernel
theorem dX5_operatorOf_30 : decode cX5_operatorOf 30 = .ok (.iload_n 1, 1) := by decide +kernel
theorem dX5_operatorOf_31 : decode cX5_operatorOf 31 = .ok (.iconst 1, 1) := by decide +kernel
theorem dX5_operatorOf_32 : decode cX5_operatorOf 32 = .ok (.if_icmp .ne 41, 3) := by decide +kernel
theorem dX5_operatorOf_35 : decode cX5_operatorOf 35 = .ok (.aload_n 0, 1) := by decide +kernel
theorem dX5_operatorOf_36 : decode cX5_operatorOf 36 = .ok (.getfield 17, 3) := by decide +kernel
theorem dX5_operatorOf_39 : decode cX5_operatorOf 39 = .ok (.bipush 60, 2) := by decide +kernel
theorem dX5_operatorOf_41 : decode cX5_operatorOf 41 = .ok (.invokevirtual 107, 3) := by decide +kernel
theorem dX5_operatorOf_44 : decode cX5_operatorOf 44 = .ok (.ifCond .eq 9, 3) := by decide +kernel
theorem dX5_operatorOf_47 : decode cX5_operatorOf 47 = .ok (.sipush 20003, 3) := by decide +kernel
theorem dX5_operatorOf_50 : decode cX5_operatorOf 50 = .ok (.goto 22, 3) := by decide +kernel
theorem dX5_operatorOf_53 : decode cX5_operatorOf 53 = .ok (.aload_n 0, 1) := by decide +kernel
theorem dX5_operatorOf_54 : decode cX5_operatorOf 54 = .ok (.getfield 17, 3) := by decide +kernel
theorem dX5_operatorOf_57 : decode cX5_operatorOf 57 = .ok (.bipush 61, 2) := by decide +kernel
theorem dX5_operatorOf_59 : decode cX5_operatorOf 59 = .ok (.invokevirtual 107, 3) := by decide +kernel
theorem dX5_operatorOf_62 : decode cX5_operatorOf 62 = .ok (.ifCond .eq 9, 3) := by decide +kernel
theorem dX5_operatorOf_65 : decode cX5_operatorOf 65 = .ok (.sipush 20004, 3) := by decide +kernel
theorem dX5_operatorOf_68 : decode cX5_operatorOf 68 = .ok (.goto 4, 3) := by decide +kernel
theorem dX5_operatorOf_71 : decode cX5_operatorOf 71 = .ok (.iconst (-1), 1) := by decide +kernel
theorem dX5_operatorOf_72 : decode cX5_operatorOf 72 = .ok (.ireturn, 1) := by decide +kernel
theorem dX5_operatorOf_73 : decode cX5_operatorOf 73 = .ok (.iload_n 1, 1) := by decide +kernel
theorem dX5_operatorOf_74 : decode cX5_operatorOf 74 = .ok (.iconst 2, 1) := by decide +kernel
theorem dX5_operatorOf_75 : decode cX5_operatorOf 75 = .ok (.if_icmp .ne 41, 3) := by decide +kernel
theorem dX5_operatorOf_78 : decode cX5_operatorOf 78 = .ok (.aload_n 0, 1) := by decide +kernel
theorem dX5_operatorOf_79 : decode cX5_operatorOf 79 = .ok (.getfield 17, 3) := by decide +kernel
theorem dX5_operatorOf_82 : decode cX5_operatorOf 82 = .ok (.bipush 43, 2) := by decide +kernel
theorem dX5_operatorOf_84 : decode cX5_operatorOf 84 = .ok (.invokevirtual 107, 3) := by decide +kernel
theorem dX5_operatorOf_87 : decode cX5_operatorOf 87 = .ok (.ifCond .eq 9, 3) := by decide +kernel
theorem dX5_operatorOf_90 : decode cX5_operatorOf 90 = .ok (.sipush 20005, 3) := by decide +kernel
theorem dX5_operatorOf_93 : decode cX5_operatorOf 93 = .ok (.goto 22, 3) := by decide +kernel
theorem dX5_operatorOf_96 : decode cX5_operatorOf 96 = .ok (.aload_n 0, 1) := by decide +kernel
theorem dX5_operatorOf_97 : decode cX5_operatorOf 97 = .ok (.getfield 17, 3) := by decide +kernel
theorem dX5_operatorOf_100 : decode cX5_operatorOf 100 = .ok (.bipush 45, 2) := by decide +kernel
theorem dX5_operatorOf_102 : decode cX5_operatorOf 102 = .ok (.invokevirtual 107, 3) := by decide +kernel
theorem dX5_operatorOf_105 : decode cX5_operatorOf 105 = .ok (.ifCond .eq 9, 3) := by decide +kernel
theorem dX5_operatorOf_108 : decode cX5_operatorOf 108 = .ok (.sipush 20006, 3) := by decide +kernel
theorem dX5_operatorOf_111 : decode cX5_operatorOf 111 = .ok (.goto 4, 3) := by decide +kernel
theorem dX5_operatorOf_114 : decode cX5_operatorOf 114 = .ok (.iconst (-1), 1) := by decide +kernel
theorem dX5_operatorOf_115 : decode cX5_operatorOf 115 = .ok (.ireturn, 1) := by decide +kernel
theorem dX5_operatorOf_116 : decode cX5_operatorOf 116 = .ok (.aload_n 0, 1) := by decide +kernel
theorem dX5_operatorOf_117 : decode cX5_operatorOf 117 = .ok (.getfield 17, 3) := by decide +kernel
theorem dX5_operatorOf_120 : decode cX5_operatorOf 120 = .ok (.bipush 42, 2) := by decide +kernel
theorem dX5_operatorOf_122 : decode cX5_operatorOf 122 = .ok (.invokevirtual 107, 3) := by decide +kernel
theorem dX5_operatorOf_125 : decode cX5_operatorOf 125 = .ok (.ifCond .eq 9, 3) := by decide +kernel
theorem dX5_operatorOf_128 : decode cX5_operatorOf 128 = .ok (.sipush 20007, 3) := by decide +kernel
theorem dX5_operatorOf_131 : decode cX5_operatorOf 131 = .ok (.goto 4, 3) := by decide +kernel
theorem dX5_operatorOf_134 : decode cX5_operatorOf 134 = .ok (.iconst (-1), 1) := by decide +kernel
theorem dX5_operatorOf_135 : decode cX5_operatorOf 135 = .ok (.ireturn, 1) := by decide +kernel
theorem dX5_part_0 : decode cX5_part 0 = .ok (.aload_n 0, 1) := by decide +kernel
theorem dX5_part_1 : decode cX5_part 1 = .ok (.getfield 17, 3) := by decide +kernel
theorem dX5_part_4 : decode cX5_part 4 = .ok (.ldc_w 258, 3) := by decide +kernel
theorem dX5_part_7 : decode cX5_part 7 = .ok (.invokevirtual 42, 3) := by decide +kernel
theorem dX5_part_10 : decode cX5_part 10 = .ok (.ifCond .ne 7, 3) := by decide +kernel
theorem dX5_part_13 : decode cX5_part 13 = .ok (.iconst 1, 1) := by decide +kernel
theorem dX5_part_14 : decode cX5_part 14 = .ok (.goto 4, 3) := by decide +kernel
theorem dX5_part_17 : decode cX5_part 17 = .ok (.iconst 0, 1) := by decide +kernel
theorem dX5_part_18 : decode cX5_part 18 = .ok (.istore_n 2, 1) := by decide +kernel
theorem dX5_part_19 : decode cX5_part 19 = .ok (.aload_n 0, 1) := by decide +kernel
theorem dX5_part_20 : decode cX5_part 20 = .ok (.getfield 17, 3) := by decide +kernel
theorem dX5_part_23 : decode cX5_part 23 = .ok (.bipush 40, 2) := by decide +kernel
theorem dX5_part_25 : decode cX5_part 25 = .ok (.invokevirtual 107, 3) := by decide +kernel
theorem dX5_part_28 : decode cX5_part 28 = .ok (.istore_n 3, 1) := by decide +kernel
theorem dX5_part_29 : decode cX5_part 29 = .ok (.aload_n 0, 1) := by decide +kernel
theorem dX5_part_30 : decode cX5_part 30 = .ok (.getfield 17, 3) := by decide +kernel
theorem dX5_part_33 : decode cX5_part 33 = .ok (.aload_n 0, 1) := by decide +kernel
theorem dX5_part_34 : decode cX5_part 34 = .ok (.getfield 11, 3) := by decide +kernel
theorem dX5_part_37 : decode cX5_part 37 = .ok (.invokevirtual 42, 3) := by decide +kernel
theorem dX5_part_40 : decode cX5_part 40 = .ok (.istore 4, 2) := by decide +kernel
theorem dX5_part_42 : decode cX5_part 42 = .ok (.iload_n 2, 1) := by decide +kernel
theorem dX5_part_43 : decode cX5_part 43 = .ok (.ifCond .ne 30, 3) := by decide +kernel
theorem dX5_part_46 : decode cX5_part 46 = .ok (.iload_n 3, 1) := by decide +kernel
theorem dX5_part_47 : decode cX5_part 47 = .ok (.ifCond .ne 26, 3) := by decide +kernel
theorem dX5_part_50 : decode cX5_part 50 = .ok (.iload 4, 2) := by decide +kernel
theorem dX5_part_52 : decode cX5_part 52 = .ok (.iconst (-1), 1) := by decide +kernel
theorem dX5_part_53 : decode cX5_part 53 = .ok (.if_icmp .ne 20, 3) := by decide +kernel
theorem dX5_part_56 : decode cX5_part 56 = .ok (.aload_n 0, 1) := by decide +kernel
theorem dX5_part_57 : decode cX5_part 57 = .ok (.getfield 17, 3) := by decide +kernel
theorem dX5_part_60 : decode cX5_part 60 = .ok (.getfield 34, 3) := by decide +kernel
theorem dX5_part_63 : decode cX5_part 63 = .ok (.iconst 3, 1) := by decide +kernel
theorem dX5_part_64 : decode cX5_part 64 = .ok (.if_icmp .eq 9, 3) := by decide +kernel
theorem dX5_part_67 : decode cX5_part 67 = .ok (.aload_n 0, 1) := by decide +kernel
theorem dX5_part_68 : decode cX5_part 68 = .ok (.iconst 1, 1) := by decide +kernel
theorem dX5_part_69 : decode cX5_part 69 = .ok (.invokevirtual 70, 3) := by decide +kernel
theorem dX5_part_72 : decode cX5_part 72 = .ok (.ireturn, 1) := by decide +kernel
theorem dX5_part_73 : decode cX5_part 73 = .ok (.iload_n 1, 1) := by decide +kernel
theorem dX5_part_74 : decode cX5_part 74 = .ok (.iconst 5, 1) := by decide +kernel
theorem dX5_part_75 : decode cX5_part 75 = .ok (.if_icmp .lt 9, 3) := by decide +kernel
theorem dX5_part_78 : decode cX5_part 78 = .ok (.aload_n 0, 1) := by decide +kernel
theorem dX5_part_79 : decode cX5_part 79 = .ok (.iconst 5, 1) := by decide +kernel
theorem dX5_part_80 : decode cX5_part 80 = .ok (.invokevirtual 70, 3) := by decide +kernel
theorem dX5_part_83 : decode cX5_part 83 = .ok (.ireturn, 1) := by decide +kernel
theorem dX5_part_84 : decode cX5_part 84 = .ok (.iload_n 3, 1) := by decide +kernel
theorem dX5_part_85 : decode cX5_part 85 = .ok (.ifCond .eq 36, 3) := by decide +kernel
theorem dX5_part_88 : decode cX5_part 88 = .ok (.aload_n 0, 1) := by decide +kernel
theorem dX5_part_89 : decode cX5_part 89 = .ok (.getfield 17, 3) := by decide +kernel
theorem dX5_part_92 : decode cX5_part 92 = .ok (.invokevirtual 111, 3) := by decide +kernel
theorem dX5_part_95 : decode cX5_part 95 = .ok (.aload_n 0, 1) := by decide +kernel
theorem dX5_part_96 : decode cX5_part 96 = .ok (.iload_n 1, 1) := by decide +kernel
theorem dX5_part_97 : decode cX5_part 97 = .ok (.iconst 1, 1) := by decide +kernel
theorem dX5_part_98 : decode cX5_part 98 = .ok (.iadd, 1) := by decide +kernel
theorem dX5_part_99 : decode cX5_part 99 = .ok (.iconst 0, 1) := by decide +kernel
theorem dX5_part_100 : decode cX5_part 100 = .ok (.invokevirtual 239, 3) := by decide +kernel
theorem dX5_part_103 : decode cX5_part 103 = .ok (.ifCond .eq 16, 3) := by decide +kernel
theorem dX5_part_106 : decode cX5_part 106 = .ok (.aload_n 0, 1) := by decide +kernel
theorem dX5_part_107 : decode cX5_part 107 = .ok (.bipush 41, 2) := by decide +kernel
theorem dX5_part_109 : decode cX5_part 109 = .ok (.invokevirtual 154, 3) := by decide +kernel
theorem dX5_part_112 : decode cX5_part 112 = .ok (.ifCond .eq 7, 3) := by decide +kernel
theorem dX5_part_115 : decode cX5_part 115 = .ok (.iconst 1, 1) := by decide +kernel
theorem dX5_part_116 : decode cX5_part 116 = .ok (.goto 4, 3) := by decide +kernel
theorem dX5_part_119 : decode cX5_part 119 = .ok (.iconst 0, 1) := by decide +kernel
theorem dX5_part_120 : decode cX5_part 120 = .ok (.ireturn, 1) := by decide +kernel
theorem dX5_part_121 : decode cX5_part 121 = .ok (.iload_n 2, 1) := by decide +kernel
theorem dX5_part_122 : decode cX5_part 122 = .ok (.ifCond .eq 9, 3) := by decide +kernel
theorem dX5_part_125 : decode cX5_part 125 = .ok (.sipush 20000, 3) := by decide +kernel
theorem dX5_part_128 : decode cX5_part 128 = .ok (.goto 26, 3) := by decide +kernel
theorem dX5_part_131 : decode cX5_part 131 = .ok (.iload 4, 2) := by decide +kernel
theorem dX5_part_133 : decode cX5_part 133 = .ok (.iconst (-1), 1) := by decide +kernel
theorem dX5_part_134 : decode cX5_part 134 = .ok (.if_icmp .ne 14, 3) := by decide +kernel
theorem dX5_part_137 : decode cX5_part 137 = .ok (.aload_n 0, 1) := by decide +kernel
theorem dX5_part_138 : decode cX5_part 138 = .ok (.getfield 17, 3) := by decide +kernel
theorem dX5_part_141 : decode cX5_part 141 = .ok (.getfield 114, 3) := by decide +kernel
theorem dX5_part_144 : decode cX5_part 144 = .ok (.l2i, 1) := by decide +kernel
theorem dX5_part_145 : decode cX5_part 145 = .ok (.goto 9, 3) := by decide +kernel
theorem dX5_part_148 : decode cX5_part 148 = .ok (.sipush 10000, 3) := by decide +kernel
theorem dX5_part_151 : decode cX5_part 151 = .ok (.iload 4, 2) := by decide +kernel
theorem dX5_part_153 : decode cX5_part 153 = .ok (.iadd, 1) := by decide +kernel
theorem dX5_part_154 : decode cX5_part 154 = .ok (.istore 5, 2) := by decide +kernel
theorem dX5_part_156 : decode cX5_part 156 = .ok (.aload_n 0, 1) := by decide +kernel
theorem dX5_part_157 : decode cX5_part 157 = .ok (.getfield 17, 3) := by decide +kernel
theorem dX5_part_160 : decode cX5_part 160 = .ok (.invokevirtual 111, 3) := by decide +kernel
theorem dX5_part_163 : decode cX5_part 163 = .ok (.iload_n 2, 1) := by decide +kernel
theorem dX5_part_164 : decode cX5_part 164 = .ok (.ifCond .eq 15, 3) := by decide +kernel
theorem dX5_part_167 : decode cX5_part 167 = .ok (.aload_n 0, 1) := by decide +kernel
theorem dX5_part_168 : decode cX5_part 168 = .ok (.iload_n 1, 1) := by decide +kernel
theorem dX5_part_169 : decode cX5_part 169 = .ok (.iconst 1, 1) := by decide +kernel
theorem dX5_part_170 : decode cX5_part 170 = .ok (.iadd, 1) := by decide +kernel
theorem dX5_part_171 : decode cX5_part 171 = .ok (.invokevirtual 245, 3) := by decide +kernel
theorem dX5_part_174 : decode cX5_part 174 = .ok (.ifCond .ne 5, 3) := by decide +kernel
theorem dX5_part_177 : decode cX5_part 177 = .ok (.iconst 0, 1) := by decide +kernel
theorem dX5_part_178 : decode cX5_part 178 = .ok (.ireturn, 1) := by decide +kernel
theorem dX5_part_179 : decode cX5_part 179 = .ok (.aload_n 0, 1) := by decide +kernel
theorem dX5_part_180 : decode cX5_part 180 = .ok (.getfield 94, 3) := by decide +kernel
theorem dX5_part_183 : decode cX5_part 183 = .ok (.getfield 231, 3) := by decide +kernel
theorem dX5_part_186 : decode cX5_part 186 = .ok (.iload 5, 2) := by decide +kernel
theorem dX5_part_188 : decode cX5_part 188 = .ok (.invokevirtual 252, 3) := by decide +kernel
theorem dX5_part_191 : decode cX5_part 191 = .ok (.iconst 1, 1) := by decide +kernel
theorem dX5_part_192 : decode cX5_part 192 = .ok (.ireturn, 1) := by decide +kernel
theorem dX6_init_0 : decode cX6_init 0 = .ok (.aload_n 0, 1) := by decide +kernel
theorem dX6_init_1 : decode cX6_init 1 = .ok (.invokespecial 3, 3) := by decide +kernel
theorem dX6_init_4 : decode cX6_init 4 = .ok (.aload_n 0, 1) := by decide +kernel
theorem dX6_init_5 : decode cX6_init 5 = .ok (.bipush 20, 2) := by decide +kernel
theorem dX6_init_7 : decode cX6_init 7 = .ok (.newarray .int, 2) := by decide +kernel
theorem dX6_init_9 : decode cX6_init 9 = .ok (.putfield 11, 3) := by decide +kernel
theorem dX6_init_12 : decode cX6_init 12 = .ok (.aload_n 0, 1) := by decide +kernel
theorem dX6_init_13 : decode cX6_init 13 = .ok (.bipush 8, 2) := by decide +kernel
theorem dX6_init_15 : decode cX6_init 15 = .ok (.newarray .long, 2) := by decide +kernel
theorem dX6_init_17 : decode cX6_init 17 = .ok (.putfield 15, 3) := by decide +kernel
theorem dX6_init_20 : decode cX6_init 20 = .ok (.aload_n 0, 1) := by decide +kernel
theorem dX6_init_21 : decode cX6_init 21 = .ok (.iconst 4, 1) := by decide +kernel
theorem dX6_init_22 : decode cX6_init 22 = .ok (.newarray .int, 2) := by decide +kernel
theorem dX6_init_24 : decode cX6_init 24 = .ok (.putfield 19, 3) := by decide +kernel
theorem dX6_init_27 : decode cX6_init 27 = .ok (.aload_n 0, 1) := by decide +kernel
theorem dX6_init_28 : decode cX6_init 28 = .ok (.iconst 4, 1) := by decide +kernel
theorem dX6_init_29 : decode cX6_init 29 = .ok (.newarray .int, 2) := by decide +kernel
theorem dX6_init_31 : decode cX6_init 31 = .ok (.putfield 22, 3) := by decide +kernel
theorem dX6_init_34 : decode cX6_init 34 = .ok (.aload_n 0, 1) := by decide +kernel
theorem dX6_init_35 : decode cX6_init 35 = .ok (.iconst 4, 1) := by decide +kernel
theorem dX6_init_36 : decode cX6_init 36 = .ok (.newarray .int, 2) := by decide +kernel
theorem dX6_init_38 : decode cX6_init 38 = .ok (.putfield 25, 3) := by decide +kernel
theorem dX6_init_41 : decode cX6_init 41 = .ok (.aload_n 0, 1) := by decide +kernel
theorem dX6_init_42 : decode cX6_init 42 = .ok (.iconst 4, 1) := by decide +kernel
theorem dX6_init_43 : decode cX6_init 43 = .ok (.newarray .int, 2) := by decide +kernel
theorem dX6_init_45 : decode cX6_init 45 = .ok (.putfield 28, 3) := by decide +kernel
theorem dX6_init_48 : decode cX6_init 48 = .ok (.aload_n 0, 1) := by decide +kernel
theorem dX6_init_49 : decode cX6_init 49 = .ok (.iconst 4, 1) := by decide +kernel
theorem dX6_init_50 : decode cX6_init 50 = .ok (.newarray .int, 2) := by decide +kernel
theorem dX6_init_52 : decode cX6_init 52 = .ok (.putfield 31, 3) := by decide +kernel
theorem dX6_init_55 : decode cX6_init 55 = .ok (.aload_n 0, 1) := by decide +kernel
theorem dX6_init_56 : decode cX6_init 56 = .ok (.new 34, 3) := by decide +kernel
theorem dX6_init_59 : decode cX6_init 59 = .ok (.dup, 1) := by decide +kernel
theorem dX6_init_60 : decode cX6_init 60 = .ok (.invokespecial 36, 3) := by decide +kernel
theorem dX6_init_63 : decode cX6_init 63 = .ok (.putfield 37, 3) := by decide +kernel
theorem dX6_init_66 : decode cX6_init 66 = .ok (.aload_n 0, 1) := by decide +kernel
theorem dX6_init_67 : decode cX6_init 67 = .ok (.iconst 5, 1) := by decide +kernel
theorem dX6_init_68 : decode cX6_init 68 = .ok (.newarray .int, 2) := by decide +kernel
theorem dX6_init_70 : decode cX6_init 70 = .ok (.putfield 41, 3) := by decide +kernel
theorem dX6_init_73 : decode cX6_init 73 = .ok (.aload_n 0, 1) := by decide +kernel
theorem dX6_init_74 : decode cX6_init 74 = .ok (.iconst 5, 1) := by decide +kernel
theorem dX6_init_75 : decode cX6_init 75 = .ok (.newarray .int, 2) := by decide +kernel
theorem dX6_init_77 : decode cX6_init 77 = .ok (.putfield 44, 3) := by decide +kernel
theorem dX6_init_80 : decode cX6_init 80 = .ok (.aload_n 0, 1) := by decide +kernel
theorem dX6_init_81 : decode cX6_init 81 = .ok (.bipush 24, 2) := by decide +kernel
theorem dX6_init_83 : decode cX6_init 83 = .ok (.newarray .int, 2) := by decide +kernel
theorem dX6_init_85 : decode cX6_init 85 = .ok (.putfield 47, 3) := by decide +kernel
theorem dX6_init_88 : decode cX6_init 88 = .ok (.aload_n 0, 1) := by decide +kernel
theorem dX6_init_89 : decode cX6_init 89 = .ok (.sipush 192, 3) := by decide +kernel
theorem dX6_init_92 : decode cX6_init 92 = .ok (.newarray .int, 2) := by decide +kernel
theorem dX6_init_94 : decode cX6_init 94 = .ok (.putfield 50, 3) := by decide +kernel
theorem dX6_init_97 : decode cX6_init 97 = .ok (.return_, 1) := by decide +kernel
theorem dX6_clear_0 : decode cX6_clear 0 = .ok (.aload_n 0, 1) := by decide +kernel
theorem dX6_clear_1 : decode cX6_clear 1 = .ok (.iconst 2, 1) := by decide +kernel
theorem dX6_clear_2 : decode cX6_clear 2 = .ok (.putfield 53, 3) := by decide +kernel
theorem dX6_clear_5 : decode cX6_clear 5 = .ok (.aload_n 0, 1) := by decide +kernel
theorem dX6_clear_6 : decode cX6_clear 6 = .ok (.iconst 0, 1) := by decide +kernel
theorem dX6_clear_7 : decode cX6_clear 7 = .ok (.putfield 57, 3) := by decide +kernel
theorem dX6_clear_10 : decode cX6_clear 10 = .ok (.aload_n 0, 1) := by decide +kernel
theorem dX6_clear_11 : decode cX6_clear 11 = .ok (.iconst 0, 1) := by decide +kernel
theorem dX6_clear_12 : decode cX6_clear 12 = .ok (.putfield 60, 3) := by decide +kernel
theorem dX6_clear_15 : decode cX6_clear 15 = .ok (.aload_n 0, 1) := by decide +kernel
theorem dX6_clear_16 : decode cX6_clear 16 = .ok (.iconst 0, 1) := by decide +kernel
theorem dX6_clear_17 : decode cX6_clear 17 = .ok (.putfield 63, 3) := by decide +kernel
theorem dX6_clear_20 : decode cX6_clear 20 = .ok (.aload_n 0, 1) := by decide +kernel
theorem dX6_clear_21 : decode cX6_clear 21 = .ok (.iconst 0, 1) := by decide +kernel
theorem dX6_clear_22 : decode cX6_clear 22 = .ok (.putfield 66, 3) := by decide +kernel
theorem dX6_clear_25 : decode cX6_clear 25 = .ok (.aload_n 0, 1) := by decide +kernel
theorem dX6_clear_26 : decode cX6_clear 26 = .ok (.iconst 0, 1) := by decide +kernel
theorem dX6_clear_27 : decode cX6_clear 27 = .ok (.putfield 69, 3) := by decide +kernel
theorem dX6_clear_30 : decode cX6_clear 30 = .ok (.aload_n 0, 1) := by decide +kernel
theorem dX6_clear_31 : decode cX6_clear 31 = .ok (.iconst 0, 1) := by decide +kernel
theorem dX6_clear_32 : decode cX6_clear 32 = .ok (.putfield 72, 3) := by decide +kernel
theorem dX6_clear_35 : decode cX6_clear 35 = .ok (.aload_n 0, 1) := by decide +kernel
theorem dX6_clear_36 : decode cX6_clear 36 = .ok (.iconst 0, 1) := by decide +kernel
theorem dX6_clear_37 : decode cX6_clear 37 = .ok (.putfield 76, 3) := by decide +kernel
theorem dX6_clear_40 : decode cX6_clear 40 = .ok (.aload_n 0, 1) := by decide +kernel
theorem dX6_clear_41 : decode cX6_clear 41 = .ok (.getfield 37, 3) := by decide +kernel
theorem dX6_clear_44 : decode cX6_clear 44 = .ok (.iconst 0, 1) := by decide +kernel
theorem dX6_clear_45 : decode cX6_clear 45 = .ok (.putfield 79, 3) := by decide +kernel
theorem dX6_clear_48 : decode cX6_clear 48 = .ok (.aload_n 0, 1) := by decide +kernel
theorem dX6_clear_49 : decode cX6_clear 49 = .ok (.getfield 28, 3) := by decide +kernel
theorem dX6_clear_52 : decode cX6_clear 52 = .ok (.iconst 0, 1) := by decide +kernel
theorem dX6_clear_53 : decode cX6_clear 53 = .ok (.invokestatic 82, 3) := by decide +kernel
theorem dX6_clear_56 : decode cX6_clear 56 = .ok (.aload_n 0, 1) := by decide +kernel
theorem dX6_clear_57 : decode cX6_clear 57 = .ok (.getfield 31, 3) := by decide +kernel
theorem dX6_clear_60 : decode cX6_clear 60 = .ok (.iconst 0, 1) := by decide +kernel
theorem dX6_clear_61 : decode cX6_clear 61 = .ok (.invokestatic 82, 3) := by decide +kernel
theorem dX6_clear_64 : decode cX6_clear 64 = .ok (.aload_n 0, 1) := by decide +kernel
theorem dX6_clear_65 : decode cX6_clear 65 = .ok (.getfield 41, 3) := by decide +kernel
theorem dX6_clear_68 : decode cX6_clear 68 = .ok (.iconst 0, 1) := by decide +kernel
theorem dX6_clear_69 : decode cX6_clear 69 = .ok (.invokestatic 82, 3) := by decide +kernel
theorem dX6_clear_72 : decode cX6_clear 72 = .ok (.aload_n 0, 1) := by decide +kernel
theorem dX6_clear_73 : decode cX6_clear 73 = .ok (.getfield 44, 3) := by decide +kernel
theorem dX6_clear_76 : decode cX6_clear 76 = .ok (.iconst 0, 1) := by decide +kernel
theorem dX6_clear_77 : decode cX6_clear 77 = .ok (.invokestatic 82, 3) := by decide +kernel
theorem dX6_clear_80 : decode cX6_clear 80 = .ok (.aload_n 0, 1) := by decide +kernel
theorem dX6_clear_81 : decode cX6_clear 81 = .ok (.getfield 50, 3) := by decide +kernel
theorem dX6_clear_84 : decode cX6_clear 84 = .ok (.iconst (-1), 1) := by decide +kernel
theorem dX6_clear_85 : decode cX6_clear 85 = .ok (.invokestatic 82, 3) := by decide +kernel
theorem dX6_clear_88 : decode cX6_clear 88 = .ok (.return_, 1) := by decide +kernel
theorem dX6_worthTold_0 : decode cX6_worthTold 0 = .ok (.aload_n 0, 1) := by decide +kernel
theorem dX6_worthTold_1 : decode cX6_worthTold 1 = .ok (.getfield 44, 3) := by decide +kernel
theorem dX6_worthTold_4 : decode cX6_worthTold 4 = .ok (.iconst 4, 1) := by decide +kernel
theorem dX6_worthTold_5 : decode cX6_worthTold 5 = .ok (.iaload, 1) := by decide +kernel
theorem dX6_worthTold_6 : decode cX6_worthTold 6 = .ok (.aload_n 0, 1) := by decide +kernel
theorem dX6_worthTold_7 : decode cX6_worthTold 7 = .ok (.getfield 41, 3) := by decide +kernel
theorem dX6_worthTold_10 : decode cX6_worthTold 10 = .ok (.iconst 4, 1) := by decide +kernel
theorem dX6_worthTold_11 : decode cX6_worthTold 11 = .ok (.iaload, 1) := by decide +kernel
theorem dX6_worthTold_12 : decode cX6_worthTold 12 = .ok (.if_icmp .le 7, 3) := by decide +kernel
theorem dX6_worthTold_15 : decode cX6_worthTold 15 = .ok (.iconst 1, 1) := by decide +kernel
theorem dX6_worthTold_16 : decode cX6_worthTold 16 = .ok (.goto 4, 3) := by decide +kernel
theorem dX6_worthTold_19 : decode cX6_worthTold 19 = .ok (.iconst 0, 1) := by decide +kernel
theorem dX6_worthTold_20 : decode cX6_worthTold 20 = .ok (.ireturn, 1) := by decide +kernel
theorem dX6_riderNamed_0 : decode cX6_riderNamed 0 = .ok (.iconst 0, 1) := by decide +kernel
theorem dX6_riderNamed_1 : decode cX6_riderNamed 1 = .ok (.istore_n 3, 1) := by decide +kernel
theorem dX6_riderNamed_2 : decode cX6_riderNamed 2 = .ok (.iload_n 3, 1) := by decide +kernel
theorem dX6_riderNamed_3 : decode cX6_riderNamed 3 = .ok (.aload_n 0, 1) := by decide +kernel
theorem dX6_riderNamed_4 : decode cX6_riderNamed 4 = .ok (.getfield 60, 3) := by decide +kernel
theorem dX6_riderNamed_7 : decode cX6_riderNamed 7 = .ok (.if_icmp .ge 22, 3) := by decide +kernel
theorem dX6_riderNamed_10 : decode cX6_riderNamed 10 = .ok (.aload_n 0, 1) := by decide +kernel
theorem dX6_riderNamed_11 : decode cX6_riderNamed 11 = .ok (.getfield 15, 3) := by decide +kernel
theorem dX6_riderNamed_14 : decode cX6_riderNamed 14 = .ok (.iload_n 3, 1) := by decide +kernel
theorem dX6_riderNamed_15 : decode cX6_riderNamed 15 = .ok (.laload, 1) := by decide +kernel
theorem dX6_riderNamed_16 : decode cX6_riderNamed 16 = .ok (.lload_n 1, 1) := by decide +kernel
theorem dX6_riderNamed_17 : decode cX6_riderNamed 17 = .ok (.lcmp, 1) := by decide +kernel
theorem dX6_riderNamed_18 : decode cX6_riderNamed 18 = .ok (.ifCond .ne 5, 3) := by decide +kernel
theorem dX6_riderNamed_21 : decode cX6_riderNamed 21 = .ok (.iload_n 3, 1) := by decide +kernel
theorem dX6_riderNamed_22 : decode cX6_riderNamed 22 = .ok (.ireturn, 1) := by decide +kernel
theorem dX6_riderNamed_23 : decode cX6_riderNamed 23 = .ok (.iinc 3 1, 3) := by decide +kernel
theorem dX6_riderNamed_26 : decode cX6_riderNamed 26 = .ok (.goto (-24), 3) := by decide +kernel
theorem dX6_riderNamed_29 : decode cX6_riderNamed 29 = .ok (.iconst (-1), 1) := by decide +kernel
theorem dX6_riderNamed_30 : decode cX6_riderNamed 30 = .ok (.ireturn, 1) := by decide +kernel
theorem dX6_tells_0 : decode cX6_tells 0 = .ok (.iconst 0, 1) := by decide +kernel
theorem dX6_tells_1 : decode cX6_tells 1 = .ok (.istore_n 3, 1) := by decide +kernel
theorem dX6_tells_2 : decode cX6_tells 2 = .ok (.iload_n 3, 1) := by decide +kernel
theorem dX6_tells_3 : decode cX6_tells 3 = .ok (.aload_n 0, 1) := by decide +kernel
theorem dX6_tells_4 : decode cX6_tells 4 = .ok (.getfield 63, 3) := by decide +kernel
theorem dX6_tells_7 : decode cX6_tells 7 = .ok (.if_icmp .ge 24, 3) := by decide +kernel
theorem dX6_tells_10 : decode cX6_tells 10 = .ok (.aload_n 0, 1) := by decide +kernel
theorem dX6_tells_11 : decode cX6_tells 11 = .ok (.getfield 15, 3) := by decide +kernel
theorem dX6_tells_14 : decode cX6_tells 14 = .ok (.iconst 4, 1) := by decide +kernel
theorem dX6_tells_15 : decode cX6_tells 15 = .ok (.iload_n 3, 1) := by decide +kernel
theorem dX6_tells_16 : decode cX6_tells 16 = .ok (.iadd, 1) := by decide +kernel
theorem dX6_tells_17 : decode cX6_tells 17 = .ok (.laload, 1) := by decide +kernel
theorem dX6_tells_18 : decode cX6_tells 18 = .ok (.lload_n 1, 1) := by decide +kernel
theorem dX6_tells_19 : decode cX6_tells 19 = .ok (.lcmp, 1) := by decide +kernel
theorem dX6_tells_20 : decode cX6_tells 20 = .ok (.ifCond .ne 5, 3) := by decide +kernel
theorem dX6_tells_23 : decode cX6_tells 23 = .ok (.iconst 1, 1) := by decide +kernel
theorem dX6_tells_24 : decode cX6_tells 24 = .ok (.ireturn, 1) := by decide +kernel
theorem dX6_tells_25 : decode cX6_tells 25 = .ok (.iinc 3 1, 3) := by decide +kernel
theorem dX6_tells_28 : decode cX6_tells 28 = .ok (.goto (-26), 3) := by decide +kernel
theorem dX6_tells_31 : decode cX6_tells 31 = .ok (.aload_n 0, 1) := by decide +kernel
theorem dX6_tells_32 : decode cX6_tells 32 = .ok (.lload_n 1, 1) := by decide +kernel
theorem dX6_tells_33 : decode cX6_tells 33 = .ok (.invokevirtual 88, 3) := by decide +kernel
theorem dX6_tells_36 : decode cX6_tells 36 = .ok (.iconst (-1), 1) := by decide +kernel
theorem dX6_tells_37 : decode cX6_tells 37 = .ok (.if_icmp .eq 7, 3) := by decide +kernel
theorem dX6_tells_40 : decode cX6_tells 40 = .ok (.iconst 1, 1) := by decide +kernel
theorem dX6_tells_41 : decode cX6_tells 41 = .ok (.goto 4, 3) := by decide +kernel
theorem dX6_tells_44 : decode cX6_tells 44 = .ok (.iconst 0, 1) := by decide +kernel
theorem dX6_tells_45 : decode cX6_tells 45 = .ok (.ireturn, 1) := by decide +kernel
theorem dX6_minutesOf_0 : decode cX6_minutesOf 0 = .ok (.aload_n 0, 1) := by decide +kernel
theorem dX6_minutesOf_1 : decode cX6_minutesOf 1 = .ok (.getfield 11, 3) := by decide +kernel
theorem dX6_minutesOf_4 : decode cX6_minutesOf 4 = .ok (.iload_n 1, 1) := by decide +kernel
theorem dX6_minutesOf_5 : decode cX6_minutesOf 5 = .ok (.iconst 5, 1) := by decide +kernel
theorem dX6_minutesOf_6 : decode cX6_minutesOf 6 = .ok (.imul, 1) := by decide +kernel
theorem dX6_minutesOf_7 : decode cX6_minutesOf 7 = .ok (.iaload, 1) := by decide +kernel
theorem dX6_minutesOf_8 : decode cX6_minutesOf 8 = .ok (.ireturn, 1) := by decide +kernel
theorem dX6_has_0 : decode cX6_has 0 = .ok (.aload_n 0, 1) := by decide +kernel
theorem dX6_has_1 : decode cX6_has 1 = .ok (.getfield 11, 3) := by decide +kernel
theorem dX6_has_4 : decode cX6_has 4 = .ok (.iload_n 1, 1) := by decide +kernel
theorem dX6_has_5 : decode cX6_has 5 = .ok (.iconst 5, 1) := by decide +kernel
theorem dX6_has_6 : decode cX6_has 6 = .ok (.imul, 1) := by decide +kernel
theorem dX6_has_7 : decode cX6_has 7 = .ok (.iconst 1, 1) := by decide +kernel
theorem dX6_has_8 : decode cX6_has 8 = .ok (.iadd, 1) := by decide +kernel
theorem dX6_has_9 : decode cX6_has 9 = .ok (.iload_n 2, 1) := by decide +kernel
theorem dX6_has_10 : decode cX6_has 10 = .ok (.iadd, 1) := by decide +kernel
theorem dX6_has_11 : decode cX6_has 11 = .ok (.iaload, 1) := by decide +kernel
theorem dX6_has_12 : decode cX6_has 12 = .ok (.ireturn, 1) := by decide +kernel
theorem dX6_areBeside_0 : decode cX6_areBeside 0 = .ok (.iload_n 1, 1) := by decide +kernel
theorem dX6_areBeside_1 : decode cX6_areBeside 1 = .ok (.iload_n 2, 1) := by decide +kernel
theorem dX6_areBeside_2 : decode cX6_areBeside 2 = .ok (.invokestatic 92, 3) := by decide +kernel
theorem dX6_areBeside_5 : decode cX6_areBeside 5 = .ok (.istore_n 3, 1) := by decide +kernel
theorem dX6_areBeside_6 : decode cX6_areBeside 6 = .ok (.iload_n 3, 1) := by decide +kernel
theorem dX6_areBeside_7 : decode cX6_areBeside 7 = .ok (.ifCond .lt 29, 3) := by decide +kernel
theorem dX6_areBeside_10 : decode cX6_areBeside 10 = .ok (.iload_n 1, 1) := by decide +kernel
theorem dX6_areBeside_11 : decode cX6_areBeside 11 = .ok (.iload_n 2, 1) := by decide +kernel
theorem dX6_areBeside_12 : decode cX6_areBeside 12 = .ok (.invokestatic 98, 3) := by decide +kernel
theorem dX6_areBeside_15 : decode cX6_areBeside 15 = .ok (.iload_n 3, 1) := by decide +kernel
theorem dX6_areBeside_16 : decode cX6_areBeside 16 = .ok (.iconst 1, 1) := by decide +kernel
theorem dX6_areBeside_17 : decode cX6_areBeside 17 = .ok (.iadd, 1) := by decide +kernel
theorem dX6_areBeside_18 : decode cX6_areBeside 18 = .ok (.if_icmp .ne 18, 3) := by decide +kernel
theorem dX6_areBeside_21 : decode cX6_areBeside 21 = .ok (.aload_n 0, 1) := by decide +kernel
theorem dX6_areBeside_22 : decode cX6_areBeside 22 = .ok (.getfield 66, 3) := by decide +kernel
theorem dX6_areBeside_25 : decode cX6_areBeside 25 = .ok (.iload_n 3, 1) := by decide +kernel
theorem dX6_areBeside_26 : decode cX6_areBeside 26 = .ok (.ishr, 1) := by decide +kernel
theorem dX6_areBeside_27 : decode cX6_areBeside 27 = .ok (.iconst 1, 1) := by decide +kernel
theorem dX6_areBeside_28 : decode cX6_areBeside 28 = .ok (.iand, 1) := by decide +kernel
theorem dX6_areBeside_29 : decode cX6_areBeside 29 = .ok (.ifCond .ne 7, 3) := by decide +kernel
theorem dX6_areBeside_32 : decode cX6_areBeside 32 = .ok (.iconst 1, 1) := by decide +kernel
theorem dX6_areBeside_33 : decode cX6_areBeside 33 = .ok (.goto 4, 3) := by decide +kernel
theorem dX6_areBeside_36 : decode cX6_areBeside 36 = .ok (.iconst 0, 1) := by decide +kernel
theorem dX6_areBeside_37 : decode cX6_areBeside 37 = .ok (.ireturn, 1) := by decide +kernel
theorem dX6_isEnd_0 : decode cX6_isEnd 0 = .ok (.iload_n 1, 1) := by decide +kernel
theorem dX6_isEnd_1 : decode cX6_isEnd 1 = .ok (.ifCond .eq 13, 3) := by decide +kernel
theorem dX6_isEnd_4 : decode cX6_isEnd 4 = .ok (.iload_n 1, 1) := by decide +kernel
theorem dX6_isEnd_5 : decode cX6_isEnd 5 = .ok (.aload_n 0, 1) := by decide +kernel
theorem dX6_isEnd_6 : decode cX6_isEnd 6 = .ok (.getfield 53, 3) := by decide +kernel
theorem dX6_isEnd_9 : decode cX6_isEnd 9 = .ok (.iconst 1, 1) := by decide +kernel
theorem dX6_isEnd_10 : decode cX6_isEnd 10 = .ok (.isub, 1) := by decide +kernel
theorem dX6_isEnd_11 : decode cX6_isEnd 11 = .ok (.if_icmp .ne 7, 3) := by decide +kernel
theorem dX6_isEnd_14 : decode cX6_isEnd 14 = .ok (.iconst 1, 1) := by decide +kernel
theorem dX6_isEnd_15 : decode cX6_isEnd 15 = .ok (.goto 4, 3) := by decide +kernel
theorem dX6_isEnd_18 : decode cX6_isEnd 18 = .ok (.iconst 0, 1) := by decide +kernel
theorem dX6_isEnd_19 : decode cX6_isEnd 19 = .ok (.ireturn, 1) := by decide +kernel
theorem dX6_maySit_0 : decode cX6_maySit 0 = .ok (.aload_n 0, 1) := by decide +kernel
theorem dX6_maySit_1 : decode cX6_maySit 1 = .ok (.getfield 31, 3) := by decide +kernel
theorem dX6_maySit_4 : decode cX6_maySit 4 = .ok (.iload_n 1, 1) := by decide +kernel
theorem dX6_maySit_5 : decode cX6_maySit 5 = .ok (.iaload, 1) := by decide +kernel
theorem dX6_maySit_6 : decode cX6_maySit 6 = .ok (.iload_n 2, 1) := by decide +kernel
theorem dX6_maySit_7 : decode cX6_maySit 7 = .ok (.ishr, 1) := by decide +kernel
theorem dX6_maySit_8 : decode cX6_maySit 8 = .ok (.iconst 1, 1) := by decide +kernel
theorem dX6_maySit_9 : decode cX6_maySit 9 = .ok (.iand, 1) := by decide +kernel
theorem dX6_maySit_10 : decode cX6_maySit 10 = .ok (.ifCond .ne 25, 3) := by decide +kernel
theorem dX6_maySit_13 : decode cX6_maySit 13 = .ok (.aload_n 0, 1) := by decide +kernel
theorem dX6_maySit_14 : decode cX6_maySit 14 = .ok (.getfield 19, 3) := by decide +kernel
theorem dX6_maySit_17 : decode cX6_maySit 17 = .ok (.iload_n 1, 1) := by decide +kernel
theorem dX6_maySit_18 : decode cX6_maySit 18 = .ok (.iaload, 1) := by decide +kernel
theorem dX6_maySit_19 : decode cX6_maySit 19 = .ok (.iconst 1, 1) := by decide +kernel
theorem dX6_maySit_20 : decode cX6_maySit 20 = .ok (.if_icmp .ne 11, 3) := by decide +kernel
theorem dX6_maySit_23 : decode cX6_maySit 23 = .ok (.aload_n 0, 1) := by decide +kernel
theorem dX6_maySit_24 : decode cX6_maySit 24 = .ok (.iload_n 2, 1) := by decide +kernel
theorem dX6_maySit_25 : decode cX6_maySit 25 = .ok (.invokevirtual 101, 3) := by decide +kernel
theorem dX6_maySit_28 : decode cX6_maySit 28 = .ok (.ifCond .eq 7, 3) := by decide +kernel
theorem dX6_maySit_31 : decode cX6_maySit 31 = .ok (.iconst 1, 1) := by decide +kernel
theorem dX6_maySit_32 : decode cX6_maySit 32 = .ok (.goto 4, 3) := by decide +kernel
theorem dX6_maySit_35 : decode cX6_maySit 35 = .ok (.iconst 0, 1) := by decide +kernel
theorem dX6_maySit_36 : decode cX6_maySit 36 = .ok (.ireturn, 1) := by decide +kernel
theorem dX6_allows_0 : decode cX6_allows 0 = .ok (.iconst 0, 1) := by decide +kernel
theorem dX6_allows_1 : decode cX6_allows 1 = .ok (.istore_n 2, 1) := by decide +kernel
theorem dX6_allows_2 : decode cX6_allows 2 = .ok (.iload_n 2, 1) := by decide +kernel
theorem dX6_allows_3 : decode cX6_allows 3 = .ok (.aload_n 0, 1) := by decide +kernel
theorem dX6_allows_4 : decode cX6_allows 4 = .ok (.getfield 60, 3) := by decide +kernel
theorem dX6_allows_7 : decode cX6_allows 7 = .ok (.if_icmp .ge 100, 3) := by decide +kernel
theorem dX6_allows_10 : decode cX6_allows 10 = .ok (.aload_n 1, 1) := by decide +kernel
theorem dX6_allows_11 : decode cX6_allows 11 = .ok (.iload_n 2, 1) := by decide +kernel
theorem dX6_allows_12 : decode cX6_allows 12 = .ok (.iaload, 1) := by decide +kernel
theorem dX6_allows_13 : decode cX6_allows 13 = .ok (.ifCond .lt 24, 3) := by decide +kernel
theorem dX6_allows_16 : decode cX6_allows 16 = .ok (.aload_n 1, 1) := by decide +kernel
theorem dX6_allows_17 : decode cX6_allows 17 = .ok (.iload_n 2, 1) := by decide +kernel
theorem dX6_allows_18 : decode cX6_allows 18 = .ok (.iaload, 1) := by decide +kernel
theorem dX6_allows_19 : decode cX6_allows 19 = .ok (.aload_n 0, 1) := by decide +kernel
theorem dX6_allows_20 : decode cX6_allows 20 = .ok (.getfield 53, 3) := by decide +kernel
theorem dX6_allows_23 : decode cX6_allows 23 = .ok (.if_icmp .ge 14, 3) := by decide +kernel
theorem dX6_allows_26 : decode cX6_allows 26 = .ok (.aload_n 0, 1) := by decide +kernel
theorem dX6_allows_27 : decode cX6_allows 27 = .ok (.iload_n 2, 1) := by decide +kernel
theorem dX6_allows_28 : decode cX6_allows 28 = .ok (.aload_n 1, 1) := by decide +kernel
theorem dX6_allows_29 : decode cX6_allows 29 = .ok (.iload_n 2, 1) := by decide +kernel
theorem dX6_allows_30 : decode cX6_allows 30 = .ok (.iaload, 1) := by decide +kernel
theorem dX6_allows_31 : decode cX6_allows 31 = .ok (.invokevirtual 105, 3) := by decide +kernel
theorem dX6_allows_34 : decode cX6_allows 34 = .ok (.ifCond .ne 5, 3) := by decide +kernel
theorem dX6_allows_37 : decode cX6_allows 37 = .ok (.iconst 0, 1) := by decide +kernel
theorem dX6_allows_38 : decode cX6_allows 38 = .ok (.ireturn, 1) := by decide +kernel
theorem dX6_allows_39 : decode cX6_allows 39 = .ok (.iconst 0, 1) := by decide +kernel
theorem dX6_allows_40 : decode cX6_allows 40 = .ok (.istore_n 3, 1) := by decide +kernel
theorem dX6_allows_41 : decode cX6_allows 41 = .ok (.iload_n 3, 1) := by decide +kernel
theorem dX6_allows_42 : decode cX6_allows 42 = .ok (.iload_n 2, 1) := by decide +kernel
theorem dX6_allows_43 : decode cX6_allows 43 = .ok (.if_icmp .ge 58, 3) := by decide +kernel
theorem dX6_allows_46 : decode cX6_allows 46 = .ok (.aload_n 0, 1) := by decide +kernel
theorem dX6_allows_47 : decode cX6_allows 47 = .ok (.getfield 28, 3) := by decide +kernel
theorem dX6_allows_50 : decode cX6_allows 50 = .ok (.iload_n 2, 1) := by decide +kernel
theorem dX6_allows_51 : decode cX6_allows 51 = .ok (.iaload, 1) := by decide +kernel
theorem dX6_allows_52 : decode cX6_allows 52 = .ok (.iload_n 3, 1) := by decide +kernel
theorem dX6_allows_53 : decode cX6_allows 53 = .ok (.ishr, 1) := by decide +kernel
theorem dX6_allows_54 : decode cX6_allows 54 = .ok (.iconst 1, 1) := by decide +kernel
theorem dX6_allows_55 : decode cX6_allows 55 = .ok (.iand, 1) := by decide +kernel
theorem dX6_allows_56 : decode cX6_allows 56 = .ok (.ifCond .eq 7, 3) := by decide +kernel
theorem dX6_allows_59 : decode cX6_allows 59 = .ok (.iconst 1, 1) := by decide +kernel
theorem dX6_allows_60 : decode cX6_allows 60 = .ok (.goto 4, 3) := by decide +kernel
theorem dX6_allows_63 : decode cX6_allows 63 = .ok (.iconst 0, 1) := by decide +kernel
theorem dX6_allows_64 : decode cX6_allows 64 = .ok (.istore 4, 2) := by decide +kernel
theorem dX6_allows_66 : decode cX6_allows 66 = .ok (.aload_n 1, 1) := by decide +kernel
theorem dX6_allows_67 : decode cX6_allows 67 = .ok (.iload_n 3, 1) := by decide +kernel
theorem dX6_allows_68 : decode cX6_allows 68 = .ok (.iaload, 1) := by decide +kernel
theorem dX6_allows_69 : decode cX6_allows 69 = .ok (.aload_n 1, 1) := by decide +kernel
theorem dX6_allows_70 : decode cX6_allows 70 = .ok (.iload_n 2, 1) := by decide +kernel
theorem dX6_allows_71 : decode cX6_allows 71 = .ok (.iaload, 1) := by decide +kernel
theorem dX6_allows_72 : decode cX6_allows 72 = .ok (.if_icmp .eq 21, 3) := by decide +kernel
theorem dX6_allows_75 : decode cX6_allows 75 = .ok (.iload 4, 2) := by decide +kernel
theorem dX6_allows_77 : decode cX6_allows 77 = .ok (.ifCond .eq 18, 3) := by decide +kernel
theorem dX6_allows_80 : decode cX6_allows 80 = .ok (.aload_n 0, 1) := by decide +kernel
theorem dX6_allows_81 : decode cX6_allows 81 = .ok (.aload_n 1, 1) := by decide +kernel
theorem dX6_allows_82 : decode cX6_allows 82 = .ok (.iload_n 3, 1) := by decide +kernel
theorem dX6_allows_83 : decode cX6_allows 83 = .ok (.iaload, 1) := by decide +kernel
theorem dX6_allows_84 : decode cX6_allows 84 = .ok (.aload_n 1, 1) := by decide +kernel
theorem dX6_allows_85 : decode cX6_allows 85 = .ok (.iload_n 2, 1) := by decide +kernel
theorem dX6_allows_86 : decode cX6_allows 86 = .ok (.iaload, 1) := by decide +kernel
theorem dX6_allows_87 : decode cX6_allows 87 = .ok (.invokevirtual 109, 3) := by decide +kernel
theorem dX6_allows_90 : decode cX6_allows 90 = .ok (.ifCond .eq 5, 3) := by decide +kernel
theorem dX6_allows_93 : decode cX6_allows 93 = .ok (.iconst 0, 1) := by decide +kernel
theorem dX6_allows_94 : decode cX6_allows 94 = .ok (.ireturn, 1) := by decide +kernel
theorem dX6_allows_95 : decode cX6_allows 95 = .ok (.iinc 3 1, 3) := by decide +kernel
theorem dX6_allows_98 : decode cX6_allows 98 = .ok (.goto (-57), 3) := by decide +kernel
theorem dX6_allows_101 : decode cX6_allows 101 = .ok (.iinc 2 1, 3) := by decide +kernel
theorem dX6_allows_104 : decode cX6_allows 104 = .ok (.goto (-102), 3) := by decide +kernel
theorem dX6_allows_107 : decode cX6_allows 107 = .ok (.iconst 1, 1) := by decide +kernel
theorem dX6_allows_108 : decode cX6_allows 108 = .ok (.ireturn, 1) := by decide +kernel
theorem dX6_unpack_0 : decode cX6_unpack 0 = .ok (.iload_n 1, 1) := by decide +kernel
theorem dX6_unpack_1 : decode cX6_unpack 1 = .ok (.ifCond .lt 15, 3) := by decide +kernel
theorem dX6_unpack_4 : decode cX6_unpack 4 = .ok (.iload_n 1, 1) := by decide +kernel
theorem dX6_unpack_5 : decode cX6_unpack 5 = .ok (.iconst 1, 1) := by decide +kernel
theorem dX6_unpack_6 : decode cX6_unpack 6 = .ok (.iconst 2, 1) := by decide +kernel
theorem dX6_unpack_7 : decode cX6_unpack 7 = .ok (.aload_n 0, 1) := by decide +kernel
theorem dX6_unpack_8 : decode cX6_unpack 8 = .ok (.getfield 60, 3) := by decide +kernel
theorem dX6_unpack_11 : decode cX6_unpack 11 = .ok (.imul, 1) := by decide +kernel
theorem dX6_unpack_12 : decode cX6_unpack 12 = .ok (.ishl, 1) := by decide +kernel
theorem dX6_unpack_13 : decode cX6_unpack 13 = .ok (.if_icmp .lt 5, 3) := by decide +kernel
theorem dX6_unpack_16 : decode cX6_unpack 16 = .ok (.iconst 0, 1) := by decide +kernel
theorem dX6_unpack_17 : decode cX6_unpack 17 = .ok (.ireturn, 1) := by decide +kernel
theorem dX6_unpack_18 : decode cX6_unpack 18 = .ok (.iconst 0, 1) := by decide +kernel
theorem dX6_unpack_19 : decode cX6_unpack 19 = .ok (.istore_n 3, 1) := by decide +kernel
theorem dX6_unpack_20 : decode cX6_unpack 20 = .ok (.iconst 0, 1) := by decide +kernel
theorem dX6_unpack_21 : decode cX6_unpack 21 = .ok (.istore 4, 2) := by decide +kernel
theorem dX6_unpack_23 : decode cX6_unpack 23 = .ok (.iload 4, 2) := by decide +kernel
theorem dX6_unpack_25 : decode cX6_unpack 25 = .ok (.aload_n 0, 1) := by decide +kernel
theorem dX6_unpack_26 : decode cX6_unpack 26 = .ok (.getfield 60, 3) := by decide +kernel
theorem dX6_unpack_29 : decode cX6_unpack 29 = .ok (.if_icmp .ge 61, 3) := by decide +kernel
theorem dX6_unpack_32 : decode cX6_unpack 32 = .ok (.aload_n 2, 1) := by decide +kernel
theorem dX6_unpack_33 : decode cX6_unpack 33 = .ok (.iload 4, 2) := by decide +kernel
theorem dX6_unpack_35 : decode cX6_unpack 35 = .ok (.iload_n 1, 1) := by decide +kernel
theorem dX6_unpack_36 : decode cX6_unpack 36 = .ok (.iconst 2, 1) := by decide +kernel
theorem dX6_unpack_37 : decode cX6_unpack 37 = .ok (.aload_n 0, 1) := by decide +kernel
theorem dX6_unpack_38 : decode cX6_unpack 38 = .ok (.getfield 60, 3) := by decide +kernel
theorem dX6_unpack_41 : decode cX6_unpack 41 = .ok (.iconst 1, 1) := by decide +kernel
theorem dX6_unpack_42 : decode cX6_unpack 42 = .ok (.isub, 1) := by decide +kernel
theorem dX6_unpack_43 : decode cX6_unpack 43 = .ok (.iload 4, 2) := by decide +kernel
theorem dX6_unpack_45 : decode cX6_unpack 45 = .ok (.isub, 1) := by decide +kernel
theorem dX6_unpack_46 : decode cX6_unpack 46 = .ok (.imul, 1) := by decide +kernel
theorem dX6_unpack_47 : decode cX6_unpack 47 = .ok (.ishr, 1) := by decide +kernel
theorem dX6_unpack_48 : decode cX6_unpack 48 = .ok (.iconst 3, 1) := by decide +kernel
theorem dX6_unpack_49 : decode cX6_unpack 49 = .ok (.iand, 1) := by decide +kernel
theorem dX6_unpack_50 : decode cX6_unpack 50 = .ok (.iastore, 1) := by decide +kernel
theorem dX6_unpack_51 : decode cX6_unpack 51 = .ok (.aload_n 2, 1) := by decide +kernel
theorem dX6_unpack_52 : decode cX6_unpack 52 = .ok (.iload 4, 2) := by decide +kernel
theorem dX6_unpack_54 : decode cX6_unpack 54 = .ok (.iaload, 1) := by decide +kernel
theorem dX6_unpack_55 : decode cX6_unpack 55 = .ok (.aload_n 0, 1) := by decide +kernel
theorem dX6_unpack_56 : decode cX6_unpack 56 = .ok (.getfield 53, 3) := by decide +kernel
theorem dX6_unpack_59 : decode cX6_unpack 59 = .ok (.if_icmp .ge 14, 3) := by decide +kernel
theorem dX6_unpack_62 : decode cX6_unpack 62 = .ok (.iload_n 3, 1) := by decide +kernel
theorem dX6_unpack_63 : decode cX6_unpack 63 = .ok (.aload_n 2, 1) := by decide +kernel
theorem dX6_unpack_64 : decode cX6_unpack 64 = .ok (.iload 4, 2) := by decide +kernel
theorem dX6_unpack_66 : decode cX6_unpack 66 = .ok (.iaload, 1) := by decide +kernel
theorem dX6_unpack_67 : decode cX6_unpack 67 = .ok (.ishr, 1) := by decide +kernel
theorem dX6_unpack_68 : decode cX6_unpack 68 = .ok (.iconst 1, 1) := by decide +kernel
theorem dX6_unpack_69 : decode cX6_unpack 69 = .ok (.iand, 1) := by decide +kernel
theorem dX6_unpack_70 : decode cX6_unpack 70 = .ok (.ifCond .eq 5, 3) := by decide +kernel
theorem dX6_unpack_73 : decode cX6_unpack 73 = .ok (.iconst 0, 1) := by decide +kernel
theorem dX6_unpack_74 : decode cX6_unpack 74 = .ok (.ireturn, 1) := by decide +kernel
theorem dX6_unpack_75 : decode cX6_unpack 75 = .ok (.iload_n 3, 1) := by decide +kernel
theorem dX6_unpack_76 : decode cX6_unpack 76 = .ok (.iconst 1, 1) := by decide +kernel
theorem dX6_unpack_77 : decode cX6_unpack 77 = .ok (.aload_n 2, 1) := by decide +kernel
theorem dX6_unpack_78 : decode cX6_unpack 78 = .ok (.iload 4, 2) := by decide +kernel
theorem dX6_unpack_80 : decode cX6_unpack 80 = .ok (.iaload, 1) := by decide +kernel
theorem dX6_unpack_81 : decode cX6_unpack 81 = .ok (.ishl, 1) := by decide +kernel
theorem dX6_unpack_82 : decode cX6_unpack 82 = .ok (.ior, 1) := by decide +kernel
theorem dX6_unpack_83 : decode cX6_unpack 83 = .ok (.istore_n 3, 1) := by decide +kernel
theorem dX6_unpack_84 : decode cX6_unpack 84 = .ok (.iinc 4 1, 3) := by decide +kernel
theorem dX6_unpack_87 : decode cX6_unpack 87 = .ok (.goto (-64), 3) := by decide +kernel
theorem dX6_unpack_90 : decode cX6_unpack 90 = .ok (.iconst 1, 1) := by decide +kernel
theorem dX6_unpack_91 : decode cX6_unpack 91 = .ok (.ireturn, 1) := by decide +kernel
theorem dX6_pack_0 : decode cX6_pack 0 = .ok (.iconst 0, 1) := by decide +kernel
theorem dX6_pack_1 : decode cX6_pack 1 = .ok (.istore_n 2, 1) := by decide +kernel
theorem dX6_pack_2 : decode cX6_pack 2 = .ok (.iconst 0, 1) := by decide +kernel
theorem dX6_pack_3 : decode cX6_pack 3 = .ok (.istore_n 3, 1) := by decide +kernel
theorem dX6_pack_4 : decode cX6_pack 4 = .ok (.iload_n 3, 1) := by decide +kernel
theorem dX6_pack_5 : decode cX6_pack 5 = .ok (.aload_n 0, 1) := by decide +kernel
theorem dX6_pack_6 : decode cX6_pack 6 = .ok (.getfield 60, 3) := by decide +kernel
theorem dX6_pack_9 : decode cX6_pack 9 = .ok (.if_icmp .ge 17, 3) := by decide +kernel
theorem dX6_pack_12 : decode cX6_pack 12 = .ok (.iload_n 2, 1) := by decide +kernel
theorem dX6_pack_13 : decode cX6_pack 13 = .ok (.iconst 4, 1) := by decide +kernel
theorem dX6_pack_14 : decode cX6_pack 14 = .ok (.imul, 1) := by decide +kernel
theorem dX6_pack_15 : decode cX6_pack 15 = .ok (.aload_n 1, 1) := by decide +kernel
theorem dX6_pack_16 : decode cX6_pack 16 = .ok (.iload_n 3, 1) := by decide +kernel
theorem dX6_pack_17 : decode cX6_pack 17 = .ok (.iaload, 1) := by decide +kernel
theorem dX6_pack_18 : decode cX6_pack 18 = .ok (.iadd, 1) := by decide +kernel
theorem dX6_pack_19 : decode cX6_pack 19 = .ok (.istore_n 2, 1) := by decide +kernel
theorem dX6_pack_20 : decode cX6_pack 20 = .ok (.iinc 3 1, 3) := by decide +kernel
theorem dX6_pack_23 : decode cX6_pack 23 = .ok (.goto (-19), 3) := by decide +kernel
theorem dX6_pack_26 : decode cX6_pack 26 = .ok (.iload_n 2, 1) := by decide +kernel
theorem dX6_pack_27 : decode cX6_pack 27 = .ok (.ireturn, 1) := by decide +kernel
theorem dX6_listPlans_0 : decode cX6_listPlans 0 = .ok (.aload_n 0, 1) := by decide +kernel
theorem dX6_listPlans_1 : decode cX6_listPlans 1 = .ok (.iconst 0, 1) := by decide +kernel
theorem dX6_listPlans_2 : decode cX6_listPlans 2 = .ok (.putfield 76, 3) := by decide +kernel
theorem dX6_listPlans_5 : decode cX6_listPlans 5 = .ok (.iconst 0, 1) := by decide +kernel
theorem dX6_listPlans_6 : decode cX6_listPlans 6 = .ok (.istore_n 2, 1) := by decide +kernel
theorem dX6_listPlans_7 : decode cX6_listPlans 7 = .ok (.iload_n 2, 1) := by decide +kernel
theorem dX6_listPlans_8 : decode cX6_listPlans 8 = .ok (.iconst 1, 1) := by decide +kernel
theorem dX6_listPlans_9 : decode cX6_listPlans 9 = .ok (.iconst 2, 1) := by decide +kernel
theorem dX6_listPlans_10 : decode cX6_listPlans 10 = .ok (.aload_n 0, 1) := by decide +kernel
theorem dX6_listPlans_11 : decode cX6_listPlans 11 = .ok (.getfield 60, 3) := by decide +kernel
theorem dX6_listPlans_14 : decode cX6_listPlans 14 = .ok (.imul, 1) := by decide +kernel
theorem dX6_listPlans_15 : decode cX6_listPlans 15 = .ok (.ishl, 1) := by decide +kernel
theorem dX6_listPlans_16 : decode cX6_listPlans 16 = .ok (.if_icmp .ge 55, 3) := by decide +kernel
theorem dX6_listPlans_19 : decode cX6_listPlans 19 = .ok (.aload_n 0, 1) := by decide +kernel
theorem dX6_listPlans_20 : decode cX6_listPlans 20 = .ok (.iload_n 2, 1) := by decide +kernel
theorem dX6_listPlans_21 : decode cX6_listPlans 21 = .ok (.aload_n 1, 1) := by decide +kernel
theorem dX6_listPlans_22 : decode cX6_listPlans 22 = .ok (.invokevirtual 112, 3) := by decide +kernel
theorem dX6_listPlans_25 : decode cX6_listPlans 25 = .ok (.ifCond .eq 40, 3) := by decide +kernel
theorem dX6_listPlans_28 : decode cX6_listPlans 28 = .ok (.aload_n 0, 1) := by decide +kernel
theorem dX6_listPlans_29 : decode cX6_listPlans 29 = .ok (.aload_n 1, 1) := by decide +kernel
theorem dX6_listPlans_30 : decode cX6_listPlans 30 = .ok (.invokevirtual 116, 3) := by decide +kernel
theorem dX6_listPlans_33 : decode cX6_listPlans 33 = .ok (.ifCond .eq 32, 3) := by decide +kernel
theorem dX6_listPlans_36 : decode cX6_listPlans 36 = .ok (.aload_n 0, 1) := by decide +kernel
theorem dX6_listPlans_37 : decode cX6_listPlans 37 = .ok (.getfield 76, 3) := by decide +kernel
theorem dX6_listPlans_40 : decode cX6_listPlans 40 = .ok (.bipush 24, 2) := by decide +kernel
theorem dX6_listPlans_42 : decode cX6_listPlans 42 = .ok (.if_icmp .ge 23, 3) := by decide +kernel
theorem dX6_listPlans_45 : decode cX6_listPlans 45 = .ok (.aload_n 0, 1) := by decide +kernel
theorem dX6_listPlans_46 : decode cX6_listPlans 46 = .ok (.getfield 47, 3) := by decide +kernel
theorem dX6_listPlans_49 : decode cX6_listPlans 49 = .ok (.aload_n 0, 1) := by decide +kernel
theorem dX6_listPlans_50 : decode cX6_listPlans 50 = .ok (.getfield 76, 3) := by decide +kernel
theorem dX6_listPlans_53 : decode cX6_listPlans 53 = .ok (.iload_n 2, 1) := by decide +kernel
theorem dX6_listPlans_54 : decode cX6_listPlans 54 = .ok (.iastore, 1) := by decide +kernel
theorem dX6_listPlans_55 : decode cX6_listPlans 55 = .ok (.aload_n 0, 1) := by decide +kernel
theorem dX6_listPlans_56 : decode cX6_listPlans 56 = .ok (.dup, 1) := by decide +kernel
theorem dX6_listPlans_57 : decode cX6_listPlans 57 = .ok (.getfield 76, 3) := by decide +kernel
theorem dX6_listPlans_60 : decode cX6_listPlans 60 = .ok (.iconst 1, 1) := by decide +kernel
theorem dX6_listPlans_61 : decode cX6_listPlans 61 = .ok (.iadd, 1) := by decide +kernel
theorem dX6_listPlans_62 : decode cX6_listPlans 62 = .ok (.putfield 76, 3) := by decide +kernel
theorem dX6_listPlans_65 : decode cX6_listPlans 65 = .ok (.iinc 2 1, 3) := by decide +kernel
theorem dX6_listPlans_68 : decode cX6_listPlans 68 = .ok (.goto (-61), 3) := by decide +kernel
theorem dX6_listPlans_71 : decode cX6_listPlans 71 = .ok (.return_, 1) := by decide +kernel
theorem dX6_planAt_0 : decode cX6_planAt 0 = .ok (.iload_n 1, 1) := by decide +kernel
theorem dX6_planAt_1 : decode cX6_planAt 1 = .ok (.ifCond .lt 20, 3) := by decide +kernel
theorem dX6_planAt_4 : decode cX6_planAt 4 = .ok (.iload_n 1, 1) := by decide +kernel
theorem dX6_planAt_5 : decode cX6_planAt 5 = .ok (.aload_n 0, 1) := by decide +kernel
theorem dX6_planAt_6 : decode cX6_planAt 6 = .ok (.getfield 76, 3) := by decide +kernel
theorem dX6_planAt_9 : decode cX6_planAt 9 = .ok (.if_icmp .ge 12, 3) := by decide +kernel
theorem dX6_planAt_12 : decode cX6_planAt 12 = .ok (.aload_n 0, 1) := by decide +kernel
theorem dX6_planAt_13 : decode cX6_planAt 13 = .ok (.getfield 47, 3) := by decide +kernel
theorem dX6_planAt_16 : decode cX6_planAt 16 = .ok (.iload_n 1, 1) := by decide +kernel
theorem dX6_planAt_17 : decode cX6_planAt 17 = .ok (.iaload, 1) := by decide +kernel
theorem dX6_planAt_18 : decode cX6_planAt 18 = .ok (.goto 4, 3) := by decide +kernel
theorem dX6_planAt_21 : decode cX6_planAt 21 = .ok (.iconst (-1), 1) := by decide +kernel
theorem dX6_planAt_22 : decode cX6_planAt 22 = .ok (.ireturn, 1) := by decide +kernel
theorem dX6_canBeDriven_0 : decode cX6_canBeDriven 0 = .ok (.aload_n 0, 1) := by decide +kernel
theorem dX6_canBeDriven_1 : decode cX6_canBeDriven 1 = .ok (.getfield 57, 3) := by decide +kernel
theorem dX6_canBeDriven_4 : decode cX6_canBeDriven 4 = .ok (.ifCond .eq 10, 3) := by decide +kernel
theorem dX6_canBeDriven_7 : decode cX6_canBeDriven 7 = .ok (.aload_n 0, 1) := by decide +kernel
theorem dX6_canBeDriven_8 : decode cX6_canBeDriven 8 = .ok (.getfield 76, 3) := by decide +kernel
theorem dX6_canBeDriven_11 : decode cX6_canBeDriven 11 = .ok (.ifCond .le 7, 3) := by decide +kernel
theorem dX6_canBeDriven_14 : decode cX6_canBeDriven 14 = .ok (.iconst 1, 1) := by decide +kernel
theorem dX6_canBeDriven_15 : decode cX6_canBeDriven 15 = .ok (.goto 4, 3) := by decide +kernel
theorem dX6_canBeDriven_18 : decode cX6_canBeDriven 18 = .ok (.iconst 0, 1) := by decide +kernel
theorem dX6_canBeDriven_19 : decode cX6_canBeDriven 19 = .ok (.ireturn, 1) := by decide +kernel
theorem dX6_worthOf_0 : decode cX6_worthOf 0 = .ok (.iconst 0, 1) := by decide +kernel
theorem dX6_worthOf_1 : decode cX6_worthOf 1 = .ok (.istore 4, 2) := by decide +kernel
theorem dX6_worthOf_3 : decode cX6_worthOf 3 = .ok (.iconst 0, 1) := by decide +kernel
theorem dX6_worthOf_4 : decode cX6_worthOf 4 = .ok (.istore 5, 2) := by decide +kernel
theorem dX6_worthOf_6 : decode cX6_worthOf 6 = .ok (.iload 5, 2) := by decide +kernel
theorem dX6_worthOf_8 : decode cX6_worthOf 8 = .ok (.aload_n 0, 1) := by decide +kernel
theorem dX6_worthOf_9 : decode cX6_worthOf 9 = .ok (.getfield 60, 3) := by decide +kernel
theorem dX6_worthOf_12 : decode cX6_worthOf 12 = .ok (.if_icmp .ge 37, 3) := by decide +kernel
theorem dX6_worthOf_15 : decode cX6_worthOf 15 = .ok (.aload_n 0, 1) := by decide +kernel
theorem dX6_worthOf_16 : decode cX6_worthOf 16 = .ok (.getfield 19, 3) := by decide +kernel
theorem dX6_worthOf_19 : decode cX6_worthOf 19 = .ok (.iload 5, 2) := by decide +kernel
theorem dX6_worthOf_21 : decode cX6_worthOf 21 = .ok (.iaload, 1) := by decide +kernel
theorem dX6_worthOf_22 : decode cX6_worthOf 22 = .ok (.iconst 2, 1) := by decide +kernel
theorem dX6_worthOf_23 : decode cX6_worthOf 23 = .ok (.if_icmp .ne 20, 3) := by decide +kernel
theorem dX6_worthOf_26 : decode cX6_worthOf 26 = .ok (.aload_n 0, 1) := by decide +kernel
theorem dX6_worthOf_27 : decode cX6_worthOf 27 = .ok (.aload_n 1, 1) := by decide +kernel
theorem dX6_worthOf_28 : decode cX6_worthOf 28 = .ok (.iload 5, 2) := by decide +kernel
theorem dX6_worthOf_30 : decode cX6_worthOf 30 = .ok (.iaload, 1) := by decide +kernel
theorem dX6_worthOf_31 : decode cX6_worthOf 31 = .ok (.aload_n 1, 1) := by decide +kernel
theorem dX6_worthOf_32 : decode cX6_worthOf 32 = .ok (.iload_n 2, 1) := by decide +kernel
theorem dX6_worthOf_33 : decode cX6_worthOf 33 = .ok (.iaload, 1) := by decide +kernel
theorem dX6_worthOf_34 : decode cX6_worthOf 34 = .ok (.invokevirtual 109, 3) := by decide +kernel
theorem dX6_worthOf_37 : decode cX6_worthOf 37 = .ok (.ifCond .eq 6, 3) := by decide +kernel
theorem dX6_worthOf_40 : decode cX6_worthOf 40 = .ok (.iinc 4 1, 3) := by decide +kernel
theorem dX6_worthOf_43 : decode cX6_worthOf 43 = .ok (.iinc 5 1, 3) := by decide +kernel
theorem dX6_worthOf_46 : decode cX6_worthOf 46 = .ok (.goto (-40), 3) := by decide +kernel
theorem dX6_worthOf_49 : decode cX6_worthOf 49 = .ok (.aload_n 0, 1) := by decide +kernel
theorem dX6_worthOf_50 : decode cX6_worthOf 50 = .ok (.iload_n 3, 1) := by decide +kernel
theorem dX6_worthOf_51 : decode cX6_worthOf 51 = .ok (.iload_n 2, 1) := by decide +kernel
theorem dX6_worthOf_52 : decode cX6_worthOf 52 = .ok (.aload_n 1, 1) := by decide +kernel
theorem dX6_worthOf_53 : decode cX6_worthOf 53 = .ok (.iload_n 2, 1) := by decide +kernel
theorem dX6_worthOf_54 : decode cX6_worthOf 54 = .ok (.iaload, 1) := by decide +kernel
theorem dX6_worthOf_55 : decode cX6_worthOf 55 = .ok (.iload 4, 2) := by decide +kernel
theorem dX6_worthOf_57 : decode cX6_worthOf 57 = .ok (.invokevirtual 120, 3) := by decide +kernel
theorem dX6_worthOf_60 : decode cX6_worthOf 60 = .ok (.ireturn, 1) := by decide +kernel
theorem dX6_worthAt_0 : decode cX6_worthAt 0 = .ok (.iload_n 1, 1) := by decide +kernel
theorem dX6_worthAt_1 : decode cX6_worthAt 1 = .ok (.iconst 4, 1) := by decide +kernel
theorem dX6_worthAt_2 : decode cX6_worthAt 2 = .ok (.imul, 1) := by decide +kernel
theorem dX6_worthAt_3 : decode cX6_worthAt 3 = .ok (.iload_n 2, 1) := by decide +kernel
theorem dX6_worthAt_4 : decode cX6_worthAt 4 = .ok (.iadd, 1) := by decide +kernel
theorem dX6_worthAt_5 : decode cX6_worthAt 5 = .ok (.iconst 4, 1) := by decide +kernel
theorem dX6_worthAt_6 : decode cX6_worthAt 6 = .ok (.imul, 1) := by decide +kernel
theorem dX6_worthAt_7 : decode cX6_worthAt 7 = .ok (.iload_n 3, 1) := by decide +kernel
theorem dX6_worthAt_8 : decode cX6_worthAt 8 = .ok (.iadd, 1) := by decide +kernel
theorem dX6_worthAt_9 : decode cX6_worthAt 9 = .ok (.iconst 3, 1) := by decide +kernel
theorem dX6_worthAt_10 : decode cX6_worthAt 10 = .ok (.imul, 1) := by decide +kernel
theorem dX6_worthAt_11 : decode cX6_worthAt 11 = .ok (.iload 4, 2) := by decide +kernel
theorem dX6_worthAt_13 : decode cX6_worthAt 13 = .ok (.iadd, 1) := by decide +kernel
theorem dX6_worthAt_14 : decode cX6_worthAt 14 = .ok (.istore 5, 2) := by decide +kernel
theorem dX6_worthAt_16 : decode cX6_worthAt 16 = .ok (.iload 5, 2) := by decide +kernel
theorem dX6_worthAt_18 : decode cX6_worthAt 18 = .ok (.ifCond .lt 13, 3) := by decide +kernel
theorem dX6_worthAt_21 : decode cX6_worthAt 21 = .ok (.iload 5, 2) := by decide +kernel
theorem dX6_worthAt_23 : decode cX6_worthAt 23 = .ok (.aload_n 0, 1) := by decide +kernel
theorem dX6_worthAt_24 : decode cX6_worthAt 24 = .ok (.getfield 50, 3) := by decide +kernel
theorem dX6_worthAt_27 : decode cX6_worthAt 27 = .ok (.arraylength, 1) := by decide +kernel
theorem dX6_worthAt_28 : decode cX6_worthAt 28 = .ok (.if_icmp .lt 5, 3) := by decide +kernel
theorem dX6_worthAt_31 : decode cX6_worthAt 31 = .ok (.iconst 0, 1) := by decide +kernel
theorem dX6_worthAt_32 : decode cX6_worthAt 32 = .ok (.ireturn, 1) := by decide +kernel
theorem dX6_worthAt_33 : decode cX6_worthAt 33 = .ok (.aload_n 0, 1) := by decide +kernel
theorem dX6_worthAt_34 : decode cX6_worthAt 34 = .ok (.getfield 50, 3) := by decide +kernel
theorem dX6_worthAt_37 : decode cX6_worthAt 37 = .ok (.iload 5, 2) := by decide +kernel
theorem dX6_worthAt_39 : decode cX6_worthAt 39 = .ok (.iaload, 1) := by decide +kernel
theorem dX6_worthAt_40 : decode cX6_worthAt 40 = .ok (.iconst (-1), 1) := by decide +kernel
theorem dX6_worthAt_41 : decode cX6_worthAt 41 = .ok (.if_icmp .ne 148, 3) := by decide +kernel
theorem dX6_worthAt_44 : decode cX6_worthAt 44 = .ok (.aload_n 0, 1) := by decide +kernel
theorem dX6_worthAt_45 : decode cX6_worthAt 45 = .ok (.getfield 37, 3) := by decide +kernel
theorem dX6_worthAt_48 : decode cX6_worthAt 48 = .ok (.getfield 124, 3) := by decide +kernel
theorem dX6_worthAt_51 : decode cX6_worthAt 51 = .ok (.iconst 0, 1) := by decide +kernel
theorem dX6_worthAt_52 : decode cX6_worthAt 52 = .ok (.aload_n 0, 1) := by decide +kernel
theorem dX6_worthAt_53 : decode cX6_worthAt 53 = .ok (.iload_n 1, 1) := by decide +kernel
theorem dX6_worthAt_54 : decode cX6_worthAt 54 = .ok (.iload_n 3, 1) := by decide +kernel
theorem dX6_worthAt_55 : decode cX6_worthAt 55 = .ok (.invokevirtual 127, 3) := by decide +kernel
theorem dX6_worthAt_58 : decode cX6_worthAt 58 = .ok (.iastore, 1) := by decide +kernel
theorem dX6_worthAt_59 : decode cX6_worthAt 59 = .ok (.aload_n 0, 1) := by decide +kernel
theorem dX6_worthAt_60 : decode cX6_worthAt 60 = .ok (.getfield 37, 3) := by decide +kernel
theorem dX6_worthAt_63 : decode cX6_worthAt 63 = .ok (.getfield 124, 3) := by decide +kernel
theorem dX6_worthAt_66 : decode cX6_worthAt 66 = .ok (.iconst 1, 1) := by decide +kernel
theorem dX6_worthAt_67 : decode cX6_worthAt 67 = .ok (.aload_n 0, 1) := by decide +kernel
theorem dX6_worthAt_68 : decode cX6_worthAt 68 = .ok (.iload_n 1, 1) := by decide +kernel
theorem dX6_worthAt_69 : decode cX6_worthAt 69 = .ok (.invokevirtual 130, 3) := by decide +kernel
theorem dX6_worthAt_72 : decode cX6_worthAt 72 = .ok (.iastore, 1) := by decide +kernel
theorem dX6_worthAt_73 : decode cX6_worthAt 73 = .ok (.aload_n 0, 1) := by decide +kernel
theorem dX6_worthAt_74 : decode cX6_worthAt 74 = .ok (.getfield 37, 3) := by decide +kernel
theorem dX6_worthAt_77 : decode cX6_worthAt 77 = .ok (.getfield 124, 3) := by decide +kernel
theorem dX6_worthAt_80 : decode cX6_worthAt 80 = .ok (.iconst 2, 1) := by decide +kernel
theorem dX6_worthAt_81 : decode cX6_worthAt 81 = .ok (.aload_n 0, 1) := by decide +kernel
theorem dX6_worthAt_82 : decode cX6_worthAt 82 = .ok (.getfield 19, 3) := by decide +kernel
theorem dX6_worthAt_85 : decode cX6_worthAt 85 = .ok (.iload_n 2, 1) := by decide +kernel
theorem dX6_worthAt_86 : decode cX6_worthAt 86 = .ok (.iaload, 1) := by decide +kernel
theorem dX6_worthAt_87 : decode cX6_worthAt 87 = .ok (.iastore, 1) := by decide +kernel
theorem dX6_worthAt_88 : decode cX6_worthAt 88 = .ok (.aload_n 0, 1) := by decide +kernel
theorem dX6_worthAt_89 : decode cX6_worthAt 89 = .ok (.getfield 37, 3) := by decide +kernel
theorem dX6_worthAt_92 : decode cX6_worthAt 92 = .ok (.getfield 124, 3) := by decide +kernel
theorem dX6_worthAt_95 : decode cX6_worthAt 95 = .ok (.iconst 3, 1) := by decide +kernel
theorem dX6_worthAt_96 : decode cX6_worthAt 96 = .ok (.aload_n 0, 1) := by decide +kernel
theorem dX6_worthAt_97 : decode cX6_worthAt 97 = .ok (.iload_n 3, 1) := by decide +kernel
theorem dX6_worthAt_98 : decode cX6_worthAt 98 = .ok (.invokevirtual 101, 3) := by decide +kernel
theorem dX6_worthAt_101 : decode cX6_worthAt 101 = .ok (.ifCond .eq 7, 3) := by decide +kernel
theorem dX6_worthAt_104 : decode cX6_worthAt 104 = .ok (.iconst 1, 1) := by decide +kernel
theorem dX6_worthAt_105 : decode cX6_worthAt 105 = .ok (.goto 4, 3) := by decide +kernel
theorem dX6_worthAt_108 : decode cX6_worthAt 108 = .ok (.iconst 0, 1) := by decide +kernel
theorem dX6_worthAt_109 : decode cX6_worthAt 109 = .ok (.iastore, 1) := by decide +kernel
theorem dX6_worthAt_110 : decode cX6_worthAt 110 = .ok (.aload_n 0, 1) := by decide +kernel
theorem dX6_worthAt_111 : decode cX6_worthAt 111 = .ok (.getfield 37, 3) := by decide +kernel
theorem dX6_worthAt_114 : decode cX6_worthAt 114 = .ok (.getfield 124, 3) := by decide +kernel
theorem dX6_worthAt_117 : decode cX6_worthAt 117 = .ok (.iconst 4, 1) := by decide +kernel
theorem dX6_worthAt_118 : decode cX6_worthAt 118 = .ok (.iload 4, 2) := by decide +kernel
theorem dX6_worthAt_120 : decode cX6_worthAt 120 = .ok (.iastore, 1) := by decide +kernel
theorem dX6_worthAt_121 : decode cX6_worthAt 121 = .ok (.aload_n 0, 1) := by decide +kernel
theorem dX6_worthAt_122 : decode cX6_worthAt 122 = .ok (.getfield 37, 3) := by decide +kernel
theorem dX6_worthAt_125 : decode cX6_worthAt 125 = .ok (.getfield 124, 3) := by decide +kernel
theorem dX6_worthAt_128 : decode cX6_worthAt 128 = .ok (.iconst 0, 1) := by decide +kernel
theorem dX6_worthAt_129 : decode cX6_worthAt 129 = .ok (.iaload, 1) := by decide +kernel
theorem dX6_worthAt_130 : decode cX6_worthAt 130 = .ok (.aload_n 0, 1) := by decide +kernel
theorem dX6_worthAt_131 : decode cX6_worthAt 131 = .ok (.getfield 37, 3) := by decide +kernel
theorem dX6_worthAt_134 : decode cX6_worthAt 134 = .ok (.getfield 124, 3) := by decide +kernel
theorem dX6_worthAt_137 : decode cX6_worthAt 137 = .ok (.iconst 1, 1) := by decide +kernel
theorem dX6_worthAt_138 : decode cX6_worthAt 138 = .ok (.iaload, 1) := by decide +kernel
theorem dX6_worthAt_139 : decode cX6_worthAt 139 = .ok (.imul, 1) := by decide +kernel
theorem dX6_worthAt_140 : decode cX6_worthAt 140 = .ok (.istore 6, 2) := by decide +kernel
theorem dX6_worthAt_142 : decode cX6_worthAt 142 = .ok (.aload_n 0, 1) := by decide +kernel
theorem dX6_worthAt_143 : decode cX6_worthAt 143 = .ok (.invokevirtual 134, 3) := by decide +kernel
theorem dX6_worthAt_146 : decode cX6_worthAt 146 = .ok (.ifCond .eq 24, 3) := by decide +kernel
theorem dX6_worthAt_149 : decode cX6_worthAt 149 = .ok (.aload_n 0, 1) := by decide +kernel
theorem dX6_worthAt_150 : decode cX6_worthAt 150 = .ok (.getfield 37, 3) := by decide +kernel
theorem dX6_worthAt_153 : decode cX6_worthAt 153 = .ok (.aload_n 0, 1) := by decide +kernel
theorem dX6_worthAt_154 : decode cX6_worthAt 154 = .ok (.getfield 41, 3) := by decide +kernel
theorem dX6_worthAt_157 : decode cX6_worthAt 157 = .ok (.iconst 4, 1) := by decide +kernel
theorem dX6_worthAt_158 : decode cX6_worthAt 158 = .ok (.iaload, 1) := by decide +kernel
theorem dX6_worthAt_159 : decode cX6_worthAt 159 = .ok (.aload_n 0, 1) := by decide +kernel
theorem dX6_worthAt_160 : decode cX6_worthAt 160 = .ok (.getfield 44, 3) := by decide +kernel
theorem dX6_worthAt_163 : decode cX6_worthAt 163 = .ok (.iconst 4, 1) := by decide +kernel
theorem dX6_worthAt_164 : decode cX6_worthAt 164 = .ok (.iaload, 1) := by decide +kernel
theorem dX6_worthAt_165 : decode cX6_worthAt 165 = .ok (.invokevirtual 138, 3) := by decide +kernel
theorem dX6_worthAt_168 : decode cX6_worthAt 168 = .ok (.istore 6, 2) := by decide +kernel
theorem dX6_worthAt_170 : decode cX6_worthAt 170 = .ok (.aload_n 0, 1) := by decide +kernel
theorem dX6_worthAt_171 : decode cX6_worthAt 171 = .ok (.getfield 50, 3) := by decide +kernel
theorem dX6_worthAt_174 : decode cX6_worthAt 174 = .ok (.iload 5, 2) := by decide +kernel
theorem dX6_worthAt_176 : decode cX6_worthAt 176 = .ok (.iconst 0, 1) := by decide +kernel
theorem dX6_worthAt_177 : decode cX6_worthAt 177 = .ok (.iload 6, 2) := by decide +kernel
theorem dX6_worthAt_179 : decode cX6_worthAt 179 = .ok (.sipush 999, 3) := by decide +kernel
theorem dX6_worthAt_182 : decode cX6_worthAt 182 = .ok (.invokestatic 92, 3) := by decide +kernel
theorem dX6_worthAt_185 : decode cX6_worthAt 185 = .ok (.invokestatic 98, 3) := by decide +kernel
theorem dX6_worthAt_188 : decode cX6_worthAt 188 = .ok (.iastore, 1) := by decide +kernel
theorem dX6_worthAt_189 : decode cX6_worthAt 189 = .ok (.aload_n 0, 1) := by decide +kernel
theorem dX6_worthAt_190 : decode cX6_worthAt 190 = .ok (.getfield 50, 3) := by decide +kernel
theorem dX6_worthAt_193 : decode cX6_worthAt 193 = .ok (.iload 5, 2) := by decide +kernel
theorem dX6_worthAt_195 : decode cX6_worthAt 195 = .ok (.iaload, 1) := by decide +kernel
theorem dX6_worthAt_196 : decode cX6_worthAt 196 = .ok (.ireturn, 1) := by decide +kernel
theorem dX6_seatByRule_0 : decode cX6_seatByRule 0 = .ok (.aload_n 0, 1) := by decide +kernel
theorem dX6_seatByRule_1 : decode cX6_seatByRule 1 = .ok (.getfield 37, 3) := by decide +kernel
theorem dX6_seatByRule_4 : decode cX6_seatByRule 4 = .ok (.getfield 124, 3) := by decide +kernel
theorem dX6_seatByRule_7 : decode cX6_seatByRule 7 = .ok (.iconst 0, 1) := by decide +kernel
theorem dX6_seatByRule_8 : decode cX6_seatByRule 8 = .ok (.iload_n 2, 1) := by decide +kernel
theorem dX6_seatByRule_9 : decode cX6_seatByRule 9 = .ok (.iastore, 1) := by decide +kernel
theorem dX6_seatByRule_10 : decode cX6_seatByRule 10 = .ok (.aload_n 0, 1) := by decide +kernel
theorem dX6_seatByRule_11 : decode cX6_seatByRule 11 = .ok (.getfield 37, 3) := by decide +kernel
theorem dX6_seatByRule_14 : decode cX6_seatByRule 14 = .ok (.getfield 124, 3) := by decide +kernel
theorem dX6_seatByRule_17 : decode cX6_seatByRule 17 = .ok (.iconst 1, 1) := by decide +kernel
theorem dX6_seatByRule_18 : decode cX6_seatByRule 18 = .ok (.iload_n 3, 1) := by decide +kernel
theorem dX6_seatByRule_19 : decode cX6_seatByRule 19 = .ok (.iastore, 1) := by decide +kernel
theorem dX6_seatByRule_20 : decode cX6_seatByRule 20 = .ok (.aload_n 0, 1) := by decide +kernel
theorem dX6_seatByRule_21 : decode cX6_seatByRule 21 = .ok (.getfield 37, 3) := by decide +kernel
theorem dX6_seatByRule_24 : decode cX6_seatByRule 24 = .ok (.getfield 124, 3) := by decide +kernel
theorem dX6_seatByRule_27 : decode cX6_seatByRule 27 = .ok (.iconst 2, 1) := by decide +kernel
theorem dX6_seatByRule_28 : decode cX6_seatByRule 28 = .ok (.iload 4, 2) := by decide +kernel
theorem dX6_seatByRule_30 : decode cX6_seatByRule 30 = .ok (.iastore, 1) := by decide +kernel
theorem dX6_seatByRule_31 : decode cX6_seatByRule 31 = .ok (.aload_n 0, 1) := by decide +kernel
theorem dX6_seatByRule_32 : decode cX6_seatByRule 32 = .ok (.getfield 37, 3) := by decide +kernel
theorem dX6_seatByRule_35 : decode cX6_seatByRule 35 = .ok (.aload_n 0, 1) := by decide +kernel
theorem dX6_seatByRule_36 : decode cX6_seatByRule 36 = .ok (.getfield 41, 3) := by decide +kernel
theorem dX6_seatByRule_39 : decode cX6_seatByRule 39 = .ok (.iload_n 1, 1) := by decide +kernel
theorem dX6_seatByRule_40 : decode cX6_seatByRule 40 = .ok (.iaload, 1) := by decide +kernel
theorem dX6_seatByRule_41 : decode cX6_seatByRule 41 = .ok (.aload_n 0, 1) := by decide +kernel
theorem dX6_seatByRule_42 : decode cX6_seatByRule 42 = .ok (.getfield 44, 3) := by decide +kernel
theorem dX6_seatByRule_45 : decode cX6_seatByRule 45 = .ok (.iload_n 1, 1) := by decide +kernel
theorem dX6_seatByRule_46 : decode cX6_seatByRule 46 = .ok (.iaload, 1) := by decide +kernel
theorem dX6_seatByRule_47 : decode cX6_seatByRule 47 = .ok (.invokevirtual 138, 3) := by decide +kernel
theorem dX6_seatByRule_50 : decode cX6_seatByRule 50 = .ok (.istore 5, 2) := by decide +kernel
theorem dX6_seatByRule_52 : decode cX6_seatByRule 52 = .ok (.aload_n 0, 1) := by decide +kernel
theorem dX6_seatByRule_53 : decode cX6_seatByRule 53 = .ok (.getfield 53, 3) := by decide +kernel
theorem dX6_seatByRule_56 : decode cX6_seatByRule 56 = .ok (.ifCond .le 15, 3) := by decide +kernel
theorem dX6_seatByRule_59 : decode cX6_seatByRule 59 = .ok (.iload 5, 2) := by decide +kernel
theorem dX6_seatByRule_61 : decode cX6_seatByRule 61 = .ok (.aload_n 0, 1) := by decide +kernel
theorem dX6_seatByRule_62 : decode cX6_seatByRule 62 = .ok (.getfield 53, 3) := by decide +kernel
theorem dX6_seatByRule_65 : decode cX6_seatByRule 65 = .ok (.invokestatic 141, 3) := by decide +kernel
theorem dX6_seatByRule_68 : decode cX6_seatByRule 68 = .ok (.goto 4, 3) := by decide +kernel
theorem dX6_seatByRule_71 : decode cX6_seatByRule 71 = .ok (.iconst 0, 1) := by decide +kernel
theorem dX6_seatByRule_72 : decode cX6_seatByRule 72 = .ok (.ireturn, 1) := by decide +kernel
theorem dX6_seatLeft_0 : decode cX6_seatLeft 0 = .ok (.iconst (-1), 1) := by decide +kernel
theorem dX6_seatLeft_1 : decode cX6_seatLeft 1 = .ok (.istore 4, 2) := by decide +kernel
theorem dX6_seatLeft_3 : decode cX6_seatLeft 3 = .ok (.iconst 0, 1) := by decide +kernel
theorem dX6_seatLeft_4 : decode cX6_seatLeft 4 = .ok (.istore 5, 2) := by decide +kernel
theorem dX6_seatLeft_6 : decode cX6_seatLeft 6 = .ok (.iload 5, 2) := by decide +kernel
theorem dX6_seatLeft_8 : decode cX6_seatLeft 8 = .ok (.aload_n 0, 1) := by decide +kernel
theorem dX6_seatLeft_9 : decode cX6_seatLeft 9 = .ok (.getfield 53, 3) := by decide +kernel
theorem dX6_seatLeft_12 : decode cX6_seatLeft 12 = .ok (.if_icmp .ge 67, 3) := by decide +kernel
theorem dX6_seatLeft_15 : decode cX6_seatLeft 15 = .ok (.iload_n 3, 1) := by decide +kernel
theorem dX6_seatLeft_16 : decode cX6_seatLeft 16 = .ok (.iload 5, 2) := by decide +kernel
theorem dX6_seatLeft_18 : decode cX6_seatLeft 18 = .ok (.ishr, 1) := by decide +kernel
theorem dX6_seatLeft_19 : decode cX6_seatLeft 19 = .ok (.iconst 1, 1) := by decide +kernel
theorem dX6_seatLeft_20 : decode cX6_seatLeft 20 = .ok (.iand, 1) := by decide +kernel
theorem dX6_seatLeft_21 : decode cX6_seatLeft 21 = .ok (.ifCond .ne 17, 3) := by decide +kernel
theorem dX6_seatLeft_24 : decode cX6_seatLeft 24 = .ok (.aload_n 0, 1) := by decide +kernel
theorem dX6_seatLeft_25 : decode cX6_seatLeft 25 = .ok (.iload_n 2, 1) := by decide +kernel
theorem dX6_seatLeft_26 : decode cX6_seatLeft 26 = .ok (.iload 5, 2) := by decide +kernel
theorem dX6_seatLeft_28 : decode cX6_seatLeft 28 = .ok (.invokevirtual 105, 3) := by decide +kernel
theorem dX6_seatLeft_31 : decode cX6_seatLeft 31 = .ok (.ifCond .eq 7, 3) := by decide +kernel
theorem dX6_seatLeft_34 : decode cX6_seatLeft 34 = .ok (.iconst 1, 1) := by decide +kernel
theorem dX6_seatLeft_35 : decode cX6_seatLeft 35 = .ok (.goto 4, 3) := by decide +kernel
theorem dX6_seatLeft_38 : decode cX6_seatLeft 38 = .ok (.iconst 0, 1) := by decide +kernel
theorem dX6_seatLeft_39 : decode cX6_seatLeft 39 = .ok (.istore 6, 2) := by decide +kernel
theorem dX6_seatLeft_41 : decode cX6_seatLeft 41 = .ok (.iload 6, 2) := by decide +kernel
theorem dX6_seatLeft_43 : decode cX6_seatLeft 43 = .ok (.ifCond .eq 30, 3) := by decide +kernel
theorem dX6_seatLeft_46 : decode cX6_seatLeft 46 = .ok (.iload 4, 2) := by decide +kernel
theorem dX6_seatLeft_48 : decode cX6_seatLeft 48 = .ok (.iconst (-1), 1) := by decide +kernel
theorem dX6_seatLeft_49 : decode cX6_seatLeft 49 = .ok (.if_icmp .eq 20, 3) := by decide +kernel
theorem dX6_seatLeft_52 : decode cX6_seatLeft 52 = .ok (.aload_n 0, 1) := by decide +kernel
theorem dX6_seatLeft_53 : decode cX6_seatLeft 53 = .ok (.iload_n 1, 1) := by decide +kernel
theorem dX6_seatLeft_54 : decode cX6_seatLeft 54 = .ok (.iload 5, 2) := by decide +kernel
theorem dX6_seatLeft_56 : decode cX6_seatLeft 56 = .ok (.invokevirtual 127, 3) := by decide +kernel
theorem dX6_seatLeft_59 : decode cX6_seatLeft 59 = .ok (.aload_n 0, 1) := by decide +kernel
theorem dX6_seatLeft_60 : decode cX6_seatLeft 60 = .ok (.iload_n 1, 1) := by decide +kernel
theorem dX6_seatLeft_61 : decode cX6_seatLeft 61 = .ok (.iload 4, 2) := by decide +kernel
theorem dX6_seatLeft_63 : decode cX6_seatLeft 63 = .ok (.invokevirtual 127, 3) := by decide +kernel
theorem dX6_seatLeft_66 : decode cX6_seatLeft 66 = .ok (.if_icmp .le 7, 3) := by decide +kernel
theorem dX6_seatLeft_69 : decode cX6_seatLeft 69 = .ok (.iload 5, 2) := by decide +kernel
theorem dX6_seatLeft_71 : decode cX6_seatLeft 71 = .ok (.istore 4, 2) := by decide +kernel
theorem dX6_seatLeft_73 : decode cX6_seatLeft 73 = .ok (.iinc 5 1, 3) := by decide +kernel
theorem dX6_seatLeft_76 : decode cX6_seatLeft 76 = .ok (.goto (-70), 3) := by decide +kernel
theorem dX6_seatLeft_79 : decode cX6_seatLeft 79 = .ok (.iload 4, 2) := by decide +kernel
theorem dX6_seatLeft_81 : decode cX6_seatLeft 81 = .ok (.ireturn, 1) := by decide +kernel
theorem dX7_init_0 : decode cX7_init 0 = .ok (.aload_n 0, 1) := by decide +kernel
theorem dX7_init_1 : decode cX7_init 1 = .ok (.invokespecial 3, 3) := by decide +kernel
theorem dX7_init_4 : decode cX7_init 4 = .ok (.aload_n 0, 1) := by decide +kernel
theorem dX7_init_5 : decode cX7_init 5 = .ok (.iconst 4, 1) := by decide +kernel
theorem dX7_init_6 : decode cX7_init 6 = .ok (.newarray .int, 2) := by decide +kernel
theorem dX7_init_8 : decode cX7_init 8 = .ok (.putfield 9, 3) := by decide +kernel
theorem dX7_init_11 : decode cX7_init 11 = .ok (.aload_n 0, 1) := by decide +kernel
theorem dX7_init_12 : decode cX7_init 12 = .ok (.iconst 4, 1) := by decide +kernel
theorem dX7_init_13 : decode cX7_init 13 = .ok (.newarray .int, 2) := by decide +kernel
theorem dX7_init_15 : decode cX7_init 15 = .ok (.putfield 15, 3) := by decide +kernel
theorem dX7_init_18 : decode cX7_init 18 = .ok (.aload_n 0, 1) := by decide +kernel
theorem dX7_init_19 : decode cX7_init 19 = .ok (.iconst 4, 1) := by decide +kernel
theorem dX7_init_20 : decode cX7_init 20 = .ok (.newarray .int, 2) := by decide +kernel
theorem dX7_init_22 : decode cX7_init 22 = .ok (.putfield 18, 3) := by decide +kernel
theorem dX7_init_25 : decode cX7_init 25 = .ok (.return_, 1) := by decide +kernel
theorem dX7_begin_0 : decode cX7_begin 0 = .ok (.aload_n 0, 1) := by decide +kernel
theorem dX7_begin_1 : decode cX7_begin 1 = .ok (.getfield 9, 3) := by decide +kernel
theorem dX7_begin_4 : decode cX7_begin 4 = .ok (.iconst (-1), 1) := by decide +kernel
theorem dX7_begin_5 : decode cX7_begin 5 = .ok (.invokestatic 21, 3) := by decide +kernel
theorem dX7_begin_8 : decode cX7_begin 8 = .ok (.aload_n 0, 1) := by decide +kernel
theorem dX7_begin_9 : decode cX7_begin 9 = .ok (.getfield 15, 3) := by decide +kernel
theorem dX7_begin_12 : decode cX7_begin 12 = .ok (.iconst (-1), 1) := by decide +kernel
theorem dX7_begin_13 : decode cX7_begin 13 = .ok (.invokestatic 21, 3) := by decide +kernel
theorem dX7_begin_16 : decode cX7_begin 16 = .ok (.aload_n 1, 1) := by decide +kernel
theorem dX7_begin_17 : decode cX7_begin 17 = .ok (.getfield 27, 3) := by decide +kernel
theorem dX7_begin_20 : decode cX7_begin 20 = .ok (.iconst 0, 1) := by decide +kernel
theorem dX7_begin_21 : decode cX7_begin 21 = .ok (.aload_n 0, 1) := by decide +kernel
theorem dX7_begin_22 : decode cX7_begin 22 = .ok (.getfield 18, 3) := by decide +kernel
theorem dX7_begin_25 : decode cX7_begin 25 = .ok (.iconst 0, 1) := by decide +kernel
theorem dX7_begin_26 : decode cX7_begin 26 = .ok (.iconst 4, 1) := by decide +kernel
theorem dX7_begin_27 : decode cX7_begin 27 = .ok (.invokestatic 32, 3) := by decide +kernel
theorem dX7_begin_30 : decode cX7_begin 30 = .ok (.aload_n 0, 1) := by decide +kernel
theorem dX7_begin_31 : decode cX7_begin 31 = .ok (.iconst 0, 1) := by decide +kernel
theorem dX7_begin_32 : decode cX7_begin 32 = .ok (.putfield 38, 3) := by decide +kernel
theorem dX7_begin_35 : decode cX7_begin 35 = .ok (.return_, 1) := by decide +kernel
theorem dX7_copy_0 : decode cX7_copy 0 = .ok (.aload_n 1, 1) := by decide +kernel
theorem dX7_copy_1 : decode cX7_copy 1 = .ok (.getfield 9, 3) := by decide +kernel
theorem dX7_copy_4 : decode cX7_copy 4 = .ok (.iconst 0, 1) := by decide +kernel
theorem dX7_copy_5 : decode cX7_copy 5 = .ok (.aload_n 0, 1) := by decide +kernel
theorem dX7_copy_6 : decode cX7_copy 6 = .ok (.getfield 9, 3) := by decide +kernel
theorem dX7_copy_9 : decode cX7_copy 9 = .ok (.iconst 0, 1) := by decide +kernel
theorem dX7_copy_10 : decode cX7_copy 10 = .ok (.iconst 4, 1) := by decide +kernel
theorem dX7_copy_11 : decode cX7_copy 11 = .ok (.invokestatic 32, 3) := by decide +kernel
theorem dX7_copy_14 : decode cX7_copy 14 = .ok (.aload_n 1, 1) := by decide +kernel
theorem dX7_copy_15 : decode cX7_copy 15 = .ok (.getfield 15, 3) := by decide +kernel
theorem dX7_copy_18 : decode cX7_copy 18 = .ok (.iconst 0, 1) := by decide +kernel
theorem dX7_copy_19 : decode cX7_copy 19 = .ok (.aload_n 0, 1) := by decide +kernel
theorem dX7_copy_20 : decode cX7_copy 20 = .ok (.getfield 15, 3) := by decide +kernel
theorem dX7_copy_23 : decode cX7_copy 23 = .ok (.iconst 0, 1) := by decide +kernel
theorem dX7_copy_24 : decode cX7_copy 24 = .ok (.iconst 4, 1) := by decide +kernel
theorem dX7_copy_25 : decode cX7_copy 25 = .ok (.invokestatic 32, 3) := by decide +kernel
theorem dX7_copy_28 : decode cX7_copy 28 = .ok (.aload_n 1, 1) := by decide +kernel
theorem dX7_copy_29 : decode cX7_copy 29 = .ok (.getfield 18, 3) := by decide +kernel
theorem dX7_copy_32 : decode cX7_copy 32 = .ok (.iconst 0, 1) := by decide +kernel
theorem dX7_copy_33 : decode cX7_copy 33 = .ok (.aload_n 0, 1) := by decide +kernel
theorem dX7_copy_34 : decode cX7_copy 34 = .ok (.getfield 18, 3) := by decide +kernel
theorem dX7_copy_37 : decode cX7_copy 37 = .ok (.iconst 0, 1) := by decide +kernel
theorem dX7_copy_38 : decode cX7_copy 38 = .ok (.iconst 4, 1) := by decide +kernel
theorem dX7_copy_39 : decode cX7_copy 39 = .ok (.invokestatic 32, 3) := by decide +kernel
theorem dX7_copy_42 : decode cX7_copy 42 = .ok (.aload_n 0, 1) := by decide +kernel
theorem dX7_copy_43 : decode cX7_copy 43 = .ok (.aload_n 1, 1) := by decide +kernel
theorem dX7_copy_44 : decode cX7_copy 44 = .ok (.getfield 38, 3) := by decide +kernel
theorem dX7_copy_47 : decode cX7_copy 47 = .ok (.putfield 38, 3) := by decide +kernel
theorem dX7_copy_50 : decode cX7_copy 50 = .ok (.return_, 1) := by decide +kernel
theorem dX7_countSitting_0 : decode cX7_countSitting 0 = .ok (.iconst 0, 1) := by decide +kernel
theorem dX7_countSitting_1 : decode cX7_countSitting 1 = .ok (.istore_n 2, 1) := by decide +kernel
theorem dX7_countSitting_2 : decode cX7_countSitting 2 = .ok (.iconst 0, 1) := by decide +kernel
theorem dX7_countSitting_3 : decode cX7_countSitting 3 = .ok (.istore_n 3, 1) := by decide +kernel
theorem dX7_countSitting_4 : decode cX7_countSitting 4 = .ok (.iload_n 3, 1) := by decide +kernel
theorem dX7_countSitting_5 : decode cX7_countSitting 5 = .ok (.iload_n 1, 1) := by decide +kernel
theorem dX7_countSitting_6 : decode cX7_countSitting 6 = .ok (.if_icmp .ge 22, 3) := by decide +kernel
theorem dX7_countSitting_9 : decode cX7_countSitting 9 = .ok (.aload_n 0, 1) := by decide +kernel
theorem dX7_countSitting_10 : decode cX7_countSitting 10 = .ok (.getfield 9, 3) := by decide +kernel
theorem dX7_countSitting_13 : decode cX7_countSitting 13 = .ok (.iload_n 3, 1) := by decide +kernel
theorem dX7_countSitting_14 : decode cX7_countSitting 14 = .ok (.iaload, 1) := by decide +kernel
theorem dX7_countSitting_15 : decode cX7_countSitting 15 = .ok (.iconst (-1), 1) := by decide +kernel
theorem dX7_countSitting_16 : decode cX7_countSitting 16 = .ok (.if_icmp .eq 6, 3) := by decide +kernel
theorem dX7_countSitting_19 : decode cX7_countSitting 19 = .ok (.iinc 2 1, 3) := by decide +kernel
theorem dX7_countSitting_22 : decode cX7_countSitting 22 = .ok (.iinc 3 1, 3) := by decide +kernel
theorem dX7_countSitting_25 : decode cX7_countSitting 25 = .ok (.goto (-21), 3) := by decide +kernel
theorem dX7_countSitting_28 : decode cX7_countSitting 28 = .ok (.iload_n 2, 1) := by decide +kernel
theorem dX7_countSitting_29 : decode cX7_countSitting 29 = .ok (.ireturn, 1) := by decide +kernel
theorem dX7_take_0 : decode cX7_take 0 = .ok (.iconst (-1), 1) := by decide +kernel
theorem dX7_take_1 : decode cX7_take 1 = .ok (.istore_n 3, 1) := by decide +kernel
theorem dX7_take_2 : decode cX7_take 2 = .ok (.iconst 0, 1) := by decide +kernel
theorem dX7_take_3 : decode cX7_take 3 = .ok (.istore 4, 2) := by decide +kernel
theorem dX7_take_5 : decode cX7_take 5 = .ok (.iload 4, 2) := by decide +kernel
theorem dX7_take_7 : decode cX7_take 7 = .ok (.iconst 4, 1) := by decide +kernel
theorem dX7_take_8 : decode cX7_take 8 = .ok (.if_icmp .ge 42, 3) := by decide +kernel
theorem dX7_take_11 : decode cX7_take 11 = .ok (.iload 4, 2) := by decide +kernel
theorem dX7_take_13 : decode cX7_take 13 = .ok (.iload_n 1, 1) := by decide +kernel
theorem dX7_take_14 : decode cX7_take 14 = .ok (.if_icmp .eq 30, 3) := by decide +kernel
theorem dX7_take_17 : decode cX7_take 17 = .ok (.aload_n 0, 1) := by decide +kernel
theorem dX7_take_18 : decode cX7_take 18 = .ok (.getfield 9, 3) := by decide +kernel
theorem dX7_take_21 : decode cX7_take 21 = .ok (.iload 4, 2) := by decide +kernel
theorem dX7_take_23 : decode cX7_take 23 = .ok (.iaload, 1) := by decide +kernel
theorem dX7_take_24 : decode cX7_take 24 = .ok (.iload_n 2, 1) := by decide +kernel
theorem dX7_take_25 : decode cX7_take 25 = .ok (.if_icmp .ne 19, 3) := by decide +kernel
theorem dX7_take_28 : decode cX7_take 28 = .ok (.iload 4, 2) := by decide +kernel
theorem dX7_take_30 : decode cX7_take 30 = .ok (.istore_n 3, 1) := by decide +kernel
theorem dX7_take_31 : decode cX7_take 31 = .ok (.aload_n 0, 1) := by decide +kernel
theorem dX7_take_32 : decode cX7_take 32 = .ok (.getfield 9, 3) := by decide +kernel
theorem dX7_take_35 : decode cX7_take 35 = .ok (.iload 4, 2) := by decide +kernel
theorem dX7_take_37 : decode cX7_take 37 = .ok (.aload_n 0, 1) := by decide +kernel
theorem dX7_take_38 : decode cX7_take 38 = .ok (.getfield 9, 3) := by decide +kernel
theorem dX7_take_41 : decode cX7_take 41 = .ok (.iload_n 1, 1) := by decide +kernel
theorem dX7_take_42 : decode cX7_take 42 = .ok (.iaload, 1) := by decide +kernel
theorem dX7_take_43 : decode cX7_take 43 = .ok (.iastore, 1) := by decide +kernel
theorem dX7_take_44 : decode cX7_take 44 = .ok (.iinc 4 1, 3) := by decide +kernel
theorem dX7_take_47 : decode cX7_take 47 = .ok (.goto (-42), 3) := by decide +kernel
theorem dX7_take_50 : decode cX7_take 50 = .ok (.aload_n 0, 1) := by decide +kernel
theorem dX7_take_51 : decode cX7_take 51 = .ok (.getfield 9, 3) := by decide +kernel
theorem dX7_take_54 : decode cX7_take 54 = .ok (.iload_n 1, 1) := by decide +kernel
theorem dX7_take_55 : decode cX7_take 55 = .ok (.iload_n 2, 1) := by decide +kernel
theorem dX7_take_56 : decode cX7_take 56 = .ok (.iastore, 1) := by decide +kernel
theorem dX7_take_57 : decode cX7_take 57 = .ok (.iload_n 3, 1) := by decide +kernel
theorem dX7_take_58 : decode cX7_take 58 = .ok (.ireturn, 1) := by decide +kernel
theorem dX7_goBy_0 : decode cX7_goBy 0 = .ok (.iconst 0, 1) := by decide +kernel
theorem dX7_goBy_1 : decode cX7_goBy 1 = .ok (.istore_n 3, 1) := by decide +kernel
theorem dX7_goBy_2 : decode cX7_goBy 2 = .ok (.iload_n 3, 1) := by decide +kernel
theorem dX7_goBy_3 : decode cX7_goBy 3 = .ok (.aload_n 1, 1) := by decide +kernel
theorem dX7_goBy_4 : decode cX7_goBy 4 = .ok (.getfield 42, 3) := by decide +kernel
theorem dX7_goBy_7 : decode cX7_goBy 7 = .ok (.if_icmp .ge 46, 3) := by decide +kernel
theorem dX7_goBy_10 : decode cX7_goBy 10 = .ok (.aload_n 0, 1) := by decide +kernel
theorem dX7_goBy_11 : decode cX7_goBy 11 = .ok (.getfield 38, 3) := by decide +kernel
theorem dX7_goBy_14 : decode cX7_goBy 14 = .ok (.ifCond .ne 7, 3) := by decide +kernel
theorem dX7_goBy_17 : decode cX7_goBy 17 = .ok (.iload_n 3, 1) := by decide +kernel
theorem dX7_goBy_18 : decode cX7_goBy 18 = .ok (.goto 9, 3) := by decide +kernel
theorem dX7_goBy_21 : decode cX7_goBy 21 = .ok (.aload_n 0, 1) := by decide +kernel
theorem dX7_goBy_22 : decode cX7_goBy 22 = .ok (.getfield 9, 3) := by decide +kernel
theorem dX7_goBy_25 : decode cX7_goBy 25 = .ok (.iload_n 3, 1) := by decide +kernel
theorem dX7_goBy_26 : decode cX7_goBy 26 = .ok (.iaload, 1) := by decide +kernel
theorem dX7_goBy_27 : decode cX7_goBy 27 = .ok (.istore 4, 2) := by decide +kernel
theorem dX7_goBy_29 : decode cX7_goBy 29 = .ok (.aload_n 0, 1) := by decide +kernel
theorem dX7_goBy_30 : decode cX7_goBy 30 = .ok (.getfield 9, 3) := by decide +kernel
theorem dX7_goBy_33 : decode cX7_goBy 33 = .ok (.iload_n 3, 1) := by decide +kernel
theorem dX7_goBy_34 : decode cX7_goBy 34 = .ok (.aload_n 1, 1) := by decide +kernel
theorem dX7_goBy_35 : decode cX7_goBy 35 = .ok (.iload_n 2, 1) := by decide +kernel
theorem dX7_goBy_36 : decode cX7_goBy 36 = .ok (.iload 4, 2) := by decide +kernel
theorem dX7_goBy_38 : decode cX7_goBy 38 = .ok (.aload_n 0, 1) := by decide +kernel
theorem dX7_goBy_39 : decode cX7_goBy 39 = .ok (.getfield 38, 3) := by decide +kernel
theorem dX7_goBy_42 : decode cX7_goBy 42 = .ok (.iload_n 3, 1) := by decide +kernel
theorem dX7_goBy_43 : decode cX7_goBy 43 = .ok (.invokevirtual 45, 3) := by decide +kernel
theorem dX7_goBy_46 : decode cX7_goBy 46 = .ok (.iastore, 1) := by decide +kernel
theorem dX7_goBy_47 : decode cX7_goBy 47 = .ok (.iinc 3 1, 3) := by decide +kernel
theorem dX7_goBy_50 : decode cX7_goBy 50 = .ok (.goto (-48), 3) := by decide +kernel
theorem dX7_goBy_53 : decode cX7_goBy 53 = .ok (.return_, 1) := by decide +kernel
theorem dX7_canGo_0 : decode cX7_canGo 0 = .ok (.aload_n 0, 1) := by decide +kernel
theorem dX7_canGo_1 : decode cX7_canGo 1 = .ok (.getfield 38, 3) := by decide +kernel
theorem dX7_canGo_4 : decode cX7_canGo 4 = .ok (.aload_n 1, 1) := by decide +kernel
theorem dX7_canGo_5 : decode cX7_canGo 5 = .ok (.getfield 49, 3) := by decide +kernel
theorem dX7_canGo_8 : decode cX7_canGo 8 = .ok (.if_icmp .ge 18, 3) := by decide +kernel
theorem dX7_canGo_11 : decode cX7_canGo 11 = .ok (.aload_n 1, 1) := by decide +kernel
theorem dX7_canGo_12 : decode cX7_canGo 12 = .ok (.aload_n 0, 1) := by decide +kernel
theorem dX7_canGo_13 : decode cX7_canGo 13 = .ok (.getfield 9, 3) := by decide +kernel
theorem dX7_canGo_16 : decode cX7_canGo 16 = .ok (.invokevirtual 52, 3) := by decide +kernel
theorem dX7_canGo_19 : decode cX7_canGo 19 = .ok (.ifCond .eq 7, 3) := by decide +kernel
theorem dX7_canGo_22 : decode cX7_canGo 22 = .ok (.iconst 1, 1) := by decide +kernel
theorem dX7_canGo_23 : decode cX7_canGo 23 = .ok (.goto 4, 3) := by decide +kernel
theorem dX7_canGo_26 : decode cX7_canGo 26 = .ok (.iconst 0, 1) := by decide +kernel
theorem dX7_canGo_27 : decode cX7_canGo 27 = .ok (.ireturn, 1) := by decide +kernel
theorem dX7_go_0 : decode cX7_go 0 = .ok (.iconst 0, 1) := by decide +kernel
theorem dX7_go_1 : decode cX7_go 1 = .ok (.istore_n 2, 1) := by decide +kernel
theorem dX7_go_2 : decode cX7_go 2 = .ok (.iload_n 2, 1) := by decide +kernel
theorem dX7_go_3 : decode cX7_go 3 = .ok (.aload_n 1, 1) := by decide +kernel
theorem dX7_go_4 : decode cX7_go 4 = .ok (.getfield 42, 3) := by decide +kernel
theorem dX7_go_7 : decode cX7_go 7 = .ok (.if_icmp .ge 66, 3) := by decide +kernel
theorem dX7_go_10 : decode cX7_go 10 = .ok (.aload_n 0, 1) := by decide +kernel
theorem dX7_go_11 : decode cX7_go 11 = .ok (.getfield 18, 3) := by decide +kernel
theorem dX7_go_14 : decode cX7_go 14 = .ok (.iload_n 2, 1) := by decide +kernel
theorem dX7_go_15 : decode cX7_go 15 = .ok (.dup2, 1) := by decide +kernel
theorem dX7_go_16 : decode cX7_go 16 = .ok (.iaload, 1) := by decide +kernel
theorem dX7_go_17 : decode cX7_go 17 = .ok (.aload_n 1, 1) := by decide +kernel
theorem dX7_go_18 : decode cX7_go 18 = .ok (.aload_n 0, 1) := by decide +kernel
theorem dX7_go_19 : decode cX7_go 19 = .ok (.getfield 9, 3) := by decide +kernel
theorem dX7_go_22 : decode cX7_go 22 = .ok (.iload_n 2, 1) := by decide +kernel
theorem dX7_go_23 : decode cX7_go 23 = .ok (.aload_n 0, 1) := by decide +kernel
theorem dX7_go_24 : decode cX7_go 24 = .ok (.getfield 38, 3) := by decide +kernel
theorem dX7_go_27 : decode cX7_go 27 = .ok (.invokevirtual 56, 3) := by decide +kernel
theorem dX7_go_30 : decode cX7_go 30 = .ok (.iadd, 1) := by decide +kernel
theorem dX7_go_31 : decode cX7_go 31 = .ok (.iastore, 1) := by decide +kernel
theorem dX7_go_32 : decode cX7_go 32 = .ok (.aload_n 0, 1) := by decide +kernel
theorem dX7_go_33 : decode cX7_go 33 = .ok (.getfield 38, 3) := by decide +kernel
theorem dX7_go_36 : decode cX7_go 36 = .ok (.ifCond .le 31, 3) := by decide +kernel
theorem dX7_go_39 : decode cX7_go 39 = .ok (.aload_n 0, 1) := by decide +kernel
theorem dX7_go_40 : decode cX7_go 40 = .ok (.getfield 9, 3) := by decide +kernel
theorem dX7_go_43 : decode cX7_go 43 = .ok (.iload_n 2, 1) := by decide +kernel
theorem dX7_go_44 : decode cX7_go 44 = .ok (.iaload, 1) := by decide +kernel
theorem dX7_go_45 : decode cX7_go 45 = .ok (.aload_n 0, 1) := by decide +kernel
theorem dX7_go_46 : decode cX7_go 46 = .ok (.getfield 15, 3) := by decide +kernel
theorem dX7_go_49 : decode cX7_go 49 = .ok (.iload_n 2, 1) := by decide +kernel
theorem dX7_go_50 : decode cX7_go 50 = .ok (.iaload, 1) := by decide +kernel
theorem dX7_go_51 : decode cX7_go 51 = .ok (.if_icmp .eq 16, 3) := by decide +kernel
theorem dX7_go_54 : decode cX7_go 54 = .ok (.aload_n 0, 1) := by decide +kernel
theorem dX7_go_55 : decode cX7_go 55 = .ok (.getfield 18, 3) := by decide +kernel
theorem dX7_go_58 : decode cX7_go 58 = .ok (.iload_n 2, 1) := by decide +kernel
theorem dX7_go_59 : decode cX7_go 59 = .ok (.dup2, 1) := by decide +kernel
theorem dX7_go_60 : decode cX7_go 60 = .ok (.iaload, 1) := by decide +kernel
theorem dX7_go_61 : decode cX7_go 61 = .ok (.aload_n 1, 1) := by decide +kernel
theorem dX7_go_62 : decode cX7_go 62 = .ok (.getfield 60, 3) := by decide +kernel
theorem dX7_go_65 : decode cX7_go 65 = .ok (.isub, 1) := by decide +kernel
theorem dX7_go_66 : decode cX7_go 66 = .ok (.iastore, 1) := by decide +kernel
theorem dX7_go_67 : decode cX7_go 67 = .ok (.iinc 2 1, 3) := by decide +kernel
theorem dX7_go_70 : decode cX7_go 70 = .ok (.goto (-68), 3) := by decide +kernel
theorem dX7_go_73 : decode cX7_go 73 = .ok (.aload_n 0, 1) := by decide +kernel
theorem dX7_go_74 : decode cX7_go 74 = .ok (.getfield 9, 3) := by decide +kernel
theorem dX7_go_77 : decode cX7_go 77 = .ok (.iconst 0, 1) := by decide +kernel
theorem dX7_go_78 : decode cX7_go 78 = .ok (.aload_n 0, 1) := by decide +kernel
theorem dX7_go_79 : decode cX7_go 79 = .ok (.getfield 15, 3) := by decide +kernel
theorem dX7_go_82 : decode cX7_go 82 = .ok (.iconst 0, 1) := by decide +kernel
theorem dX7_go_83 : decode cX7_go 83 = .ok (.iconst 4, 1) := by decide +kernel
theorem dX7_go_84 : decode cX7_go 84 = .ok (.invokestatic 32, 3) := by decide +kernel
theorem dX7_go_87 : decode cX7_go 87 = .ok (.aload_n 0, 1) := by decide +kernel
theorem dX7_go_88 : decode cX7_go 88 = .ok (.dup, 1) := by decide +kernel
theorem dX7_go_89 : decode cX7_go 89 = .ok (.getfield 38, 3) := by decide +kernel
theorem dX7_go_92 : decode cX7_go 92 = .ok (.iconst 1, 1) := by decide +kernel
theorem dX7_go_93 : decode cX7_go 93 = .ok (.iadd, 1) := by decide +kernel
theorem dX7_go_94 : decode cX7_go 94 = .ok (.putfield 38, 3) := by decide +kernel
theorem dX7_go_97 : decode cX7_go 97 = .ok (.return_, 1) := by decide +kernel
theorem dX8_init_0 : decode cX8_init 0 = .ok (.aload_n 0, 1) := by decide +kernel
theorem dX8_init_1 : decode cX8_init 1 = .ok (.invokespecial 3, 3) := by decide +kernel
theorem dX8_init_4 : decode cX8_init 4 = .ok (.aload_n 0, 1) := by decide +kernel
theorem dX8_init_5 : decode cX8_init 5 = .ok (.sipush 1000, 3) := by decide +kernel
theorem dX8_init_8 : decode cX8_init 8 = .ok (.newarray .char, 2) := by decide +kernel
theorem dX8_init_10 : decode cX8_init 10 = .ok (.putfield 9, 3) := by decide +kernel
theorem dX8_init_13 : decode cX8_init 13 = .ok (.return_, 1) := by decide +kernel
theorem dX8_addBytesOf_0 : decode cX8_addBytesOf 0 = .ok (.bipush 56, 2) := by decide +kernel
theorem dX8_addBytesOf_2 : decode cX8_addBytesOf 2 = .ok (.istore_n 3, 1) := by decide +kernel
theorem dX8_addBytesOf_3 : decode cX8_addBytesOf 3 = .ok (.iload_n 3, 1) := by decide +kernel
theorem dX8_addBytesOf_4 : decode cX8_addBytesOf 4 = .ok (.ifCond .lt 84, 3) := by decide +kernel
theorem dX8_addBytesOf_7 : decode cX8_addBytesOf 7 = .ok (.lload_n 1, 1) := by decide +kernel
theorem dX8_addBytesOf_8 : decode cX8_addBytesOf 8 = .ok (.iload_n 3, 1) := by decide +kernel
theorem dX8_addBytesOf_9 : decode cX8_addBytesOf 9 = .ok (.lushr, 1) := by decide +kernel
theorem dX8_addBytesOf_10 : decode cX8_addBytesOf 10 = .ok (.l2i, 1) := by decide +kernel
theorem dX8_addBytesOf_11 : decode cX8_addBytesOf 11 = .ok (.sipush 255, 3) := by decide +kernel
theorem dX8_addBytesOf_14 : decode cX8_addBytesOf 14 = .ok (.iand, 1) := by decide +kernel
theorem dX8_addBytesOf_15 : decode cX8_addBytesOf 15 = .ok (.istore 4, 2) := by decide +kernel
theorem dX8_addBytesOf_17 : decode cX8_addBytesOf 17 = .ok (.iload 4, 2) := by decide +kernel
theorem dX8_addBytesOf_19 : decode cX8_addBytesOf 19 = .ok (.bipush 10, 2) := by decide +kernel
theorem dX8_addBytesOf_21 : decode cX8_addBytesOf 21 = .ok (.if_icmp .eq 17, 3) := by decide +kernel
theorem dX8_addBytesOf_24 : decode cX8_addBytesOf 24 = .ok (.iload 4, 2) := by decide +kernel
theorem dX8_addBytesOf_26 : decode cX8_addBytesOf 26 = .ok (.bipush 32, 2) := by decide +kernel
theorem dX8_addBytesOf_28 : decode cX8_addBytesOf 28 = .ok (.if_icmp .lt 14, 3) := by decide +kernel
theorem dX8_addBytesOf_31 : decode cX8_addBytesOf 31 = .ok (.iload 4, 2) := by decide +kernel
theorem dX8_addBytesOf_33 : decode cX8_addBytesOf 33 = .ok (.bipush 126, 2) := by decide +kernel
theorem dX8_addBytesOf_35 : decode cX8_addBytesOf 35 = .ok (.if_icmp .gt 7, 3) := by decide +kernel
theorem dX8_addBytesOf_38 : decode cX8_addBytesOf 38 = .ok (.iconst 1, 1) := by decide +kernel
theorem dX8_addBytesOf_39 : decode cX8_addBytesOf 39 = .ok (.goto 4, 3) := by decide +kernel
theorem dX8_addBytesOf_42 : decode cX8_addBytesOf 42 = .ok (.iconst 0, 1) := by decide +kernel
theorem dX8_addBytesOf_43 : decode cX8_addBytesOf 43 = .ok (.istore 5, 2) := by decide +kernel
theorem dX8_addBytesOf_45 : decode cX8_addBytesOf 45 = .ok (.iload 5, 2) := by decide +kernel
theorem dX8_addBytesOf_47 : decode cX8_addBytesOf 47 = .ok (.ifCond .eq 35, 3) := by decide +kernel
theorem dX8_addBytesOf_50 : decode cX8_addBytesOf 50 = .ok (.aload_n 0, 1) := by decide +kernel
theorem dX8_addBytesOf_51 : decode cX8_addBytesOf 51 = .ok (.getfield 15, 3) := by decide +kernel
theorem dX8_addBytesOf_54 : decode cX8_addBytesOf 54 = .ok (.sipush 1000, 3) := by decide +kernel
theorem dX8_addBytesOf_57 : decode cX8_addBytesOf 57 = .ok (.if_icmp .ge 25, 3) := by decide +kernel
theorem dX8_addBytesOf_60 : decode cX8_addBytesOf 60 = .ok (.aload_n 0, 1) := by decide +kernel
theorem dX8_addBytesOf_61 : decode cX8_addBytesOf 61 = .ok (.getfield 9, 3) := by decide +kernel
theorem dX8_addBytesOf_64 : decode cX8_addBytesOf 64 = .ok (.aload_n 0, 1) := by decide +kernel
theorem dX8_addBytesOf_65 : decode cX8_addBytesOf 65 = .ok (.getfield 15, 3) := by decide +kernel
theorem dX8_addBytesOf_68 : decode cX8_addBytesOf 68 = .ok (.iload 4, 2) := by decide +kernel
theorem dX8_addBytesOf_70 : decode cX8_addBytesOf 70 = .ok (.i2c, 1) := by decide +kernel
theorem dX8_addBytesOf_71 : decode cX8_addBytesOf 71 = .ok (.castore, 1) := by decide +kernel
theorem dX8_addBytesOf_72 : decode cX8_addBytesOf 72 = .ok (.aload_n 0, 1) := by decide +kernel
theorem dX8_addBytesOf_73 : decode cX8_addBytesOf 73 = .ok (.dup, 1) := by decide +kernel
theorem dX8_addBytesOf_74 : decode cX8_addBytesOf 74 = .ok (.getfield 15, 3) := by decide +kernel
theorem dX8_addBytesOf_77 : decode cX8_addBytesOf 77 = .ok (.iconst 1, 1) := by decide +kernel
theorem dX8_addBytesOf_78 : decode cX8_addBytesOf 78 = .ok (.iadd, 1) := by decide +kernel
theorem dX8_addBytesOf_79 : decode cX8_addBytesOf 79 = .ok (.putfield 15, 3) := by decide +kernel
theorem dX8_addBytesOf_82 : decode cX8_addBytesOf 82 = .ok (.iinc 3 (-8), 3) := by decide +kernel
theorem dX8_addBytesOf_85 : decode cX8_addBytesOf 85 = .ok (.goto (-82), 3) := by decide +kernel
theorem dX8_addBytesOf_88 : decode cX8_addBytesOf 88 = .ok (.return_, 1) := by decide +kernel
theorem dX8_clear_0 : decode cX8_clear 0 = .ok (.aload_n 0, 1) := by decide +kernel
theorem dX8_clear_1 : decode cX8_clear 1 = .ok (.iconst 0, 1) := by decide +kernel
theorem dX8_clear_2 : decode cX8_clear 2 = .ok (.putfield 15, 3) := by decide +kernel
theorem dX8_clear_5 : decode cX8_clear 5 = .ok (.return_, 1) := by decide +kernel
theorem dX8_rewind_0 : decode cX8_rewind 0 = .ok (.aload_n 0, 1) := by decide +kernel
theorem dX8_rewind_1 : decode cX8_rewind 1 = .ok (.iconst 0, 1) := by decide +kernel
theorem dX8_rewind_2 : decode cX8_rewind 2 = .ok (.putfield 19, 3) := by decide +kernel
theorem dX8_rewind_5 : decode cX8_rewind 5 = .ok (.aload_n 0, 1) := by decide +kernel
theorem dX8_rewind_6 : decode cX8_rewind 6 = .ok (.invokevirtual 22, 3) := by decide +kernel
theorem dX8_rewind_9 : decode cX8_rewind 9 = .ok (.return_, 1) := by decide +kernel
theorem dX8_step_0 : decode cX8_step 0 = .ok (.aload_n 0, 1) := by decide +kernel
theorem dX8_step_1 : decode cX8_step 1 = .ok (.aload_n 0, 1) := by decide +kernel
theorem dX8_step_2 : decode cX8_step 2 = .ok (.getfield 25, 3) := by decide +kernel
theorem dX8_step_5 : decode cX8_step 5 = .ok (.putfield 28, 3) := by decide +kernel
theorem dX8_step_8 : decode cX8_step 8 = .ok (.aload_n 0, 1) := by decide +kernel
theorem dX8_step_9 : decode cX8_step 9 = .ok (.getfield 19, 3) := by decide +kernel
theorem dX8_step_12 : decode cX8_step 12 = .ok (.istore_n 1, 1) := by decide +kernel
theorem dX8_step_13 : decode cX8_step 13 = .ok (.iload_n 1, 1) := by decide +kernel
theorem dX8_step_14 : decode cX8_step 14 = .ok (.aload_n 0, 1) := by decide +kernel
theorem dX8_step_15 : decode cX8_step 15 = .ok (.getfield 15, 3) := by decide +kernel
theorem dX8_step_18 : decode cX8_step 18 = .ok (.if_icmp .ge 31, 3) := by decide +kernel
theorem dX8_step_21 : decode cX8_step 21 = .ok (.aload_n 0, 1) := by decide +kernel
theorem dX8_step_22 : decode cX8_step 22 = .ok (.getfield 9, 3) := by decide +kernel
theorem dX8_step_25 : decode cX8_step 25 = .ok (.iload_n 1, 1) := by decide +kernel
theorem dX8_step_26 : decode cX8_step 26 = .ok (.caload, 1) := by decide +kernel
theorem dX8_step_27 : decode cX8_step 27 = .ok (.bipush 32, 2) := by decide +kernel
theorem dX8_step_29 : decode cX8_step 29 = .ok (.if_icmp .eq 14, 3) := by decide +kernel
theorem dX8_step_32 : decode cX8_step 32 = .ok (.aload_n 0, 1) := by decide +kernel
theorem dX8_step_33 : decode cX8_step 33 = .ok (.getfield 9, 3) := by decide +kernel
theorem dX8_step_36 : decode cX8_step 36 = .ok (.iload_n 1, 1) := by decide +kernel
theorem dX8_step_37 : decode cX8_step 37 = .ok (.caload, 1) := by decide +kernel
theorem dX8_step_38 : decode cX8_step 38 = .ok (.bipush 10, 2) := by decide +kernel
theorem dX8_step_40 : decode cX8_step 40 = .ok (.if_icmp .ne 9, 3) := by decide +kernel
theorem dX8_step_43 : decode cX8_step 43 = .ok (.iinc 1 1, 3) := by decide +kernel
theorem dX8_step_46 : decode cX8_step 46 = .ok (.goto (-33), 3) := by decide +kernel
theorem dX8_step_49 : decode cX8_step 49 = .ok (.aload_n 0, 1) := by decide +kernel
theorem dX8_step_50 : decode cX8_step 50 = .ok (.iload_n 1, 1) := by decide +kernel
theorem dX8_step_51 : decode cX8_step 51 = .ok (.putfield 25, 3) := by decide +kernel
theorem dX8_step_54 : decode cX8_step 54 = .ok (.aload_n 0, 1) := by decide +kernel
theorem dX8_step_55 : decode cX8_step 55 = .ok (.lconst 0, 1) := by decide +kernel
theorem dX8_step_56 : decode cX8_step 56 = .ok (.putfield 31, 3) := by decide +kernel
theorem dX8_step_59 : decode cX8_step 59 = .ok (.aload_n 0, 1) := by decide +kernel
theorem dX8_step_60 : decode cX8_step 60 = .ok (.iconst 0, 1) := by decide +kernel
theorem dX8_step_61 : decode cX8_step 61 = .ok (.putfield 35, 3) := by decide +kernel
theorem dX8_step_64 : decode cX8_step 64 = .ok (.iload_n 1, 1) := by decide +kernel
theorem dX8_step_65 : decode cX8_step 65 = .ok (.aload_n 0, 1) := by decide +kernel
theorem dX8_step_66 : decode cX8_step 66 = .ok (.getfield 15, 3) := by decide +kernel
theorem dX8_step_69 : decode cX8_step 69 = .ok (.if_icmp .ge 12, 3) := by decide +kernel
theorem dX8_step_72 : decode cX8_step 72 = .ok (.aload_n 0, 1) := by decide +kernel
theorem dX8_step_73 : decode cX8_step 73 = .ok (.getfield 9, 3) := by decide +kernel
theorem dX8_step_76 : decode cX8_step 76 = .ok (.iload_n 1, 1) := by decide +kernel
theorem dX8_step_77 : decode cX8_step 77 = .ok (.caload, 1) := by decide +kernel
theorem dX8_step_78 : decode cX8_step 78 = .ok (.goto 4, 3) := by decide +kernel
theorem dX8_step_81 : decode cX8_step 81 = .ok (.iconst 0, 1) := by decide +kernel
theorem dX8_step_82 : decode cX8_step 82 = .ok (.istore_n 2, 1) := by decide +kernel
theorem dX8_step_83 : decode cX8_step 83 = .ok (.iload_n 2, 1) := by decide +kernel
theorem dX8_step_84 : decode cX8_step 84 = .ok (.bipush 97, 2) := by decide +kernel
theorem dX8_step_86 : decode cX8_step 86 = .ok (.if_icmp .lt 93, 3) := by decide +kernel
theorem dX8_step_89 : decode cX8_step 89 = .ok (.iload_n 2, 1) := by decide +kernel
theorem dX8_step_90 : decode cX8_step 90 = .ok (.bipush 122, 2) := by decide +kernel
theorem dX8_step_92 : decode cX8_step 92 = .ok (.if_icmp .gt 87, 3) := by decide +kernel
theorem dX8_step_95 : decode cX8_step 95 = .ok (.iload_n 1, 1) := by decide +kernel
theorem dX8_step_96 : decode cX8_step 96 = .ok (.aload_n 0, 1) := by decide +kernel
theorem dX8_step_97 : decode cX8_step 97 = .ok (.getfield 15, 3) := by decide +kernel
theorem dX8_step_100 : decode cX8_step 100 = .ok (.if_icmp .ge 56, 3) := by decide +kernel
theorem dX8_step_103 : decode cX8_step 103 = .ok (.aload_n 0, 1) := by decide +kernel
theorem dX8_step_104 : decode cX8_step 104 = .ok (.getfield 9, 3) := by decide +kernel
theorem dX8_step_107 : decode cX8_step 107 = .ok (.iload_n 1, 1) := by decide +kernel
theorem dX8_step_108 : decode cX8_step 108 = .ok (.caload, 1) := by decide +kernel
theorem dX8_step_109 : decode cX8_step 109 = .ok (.bipush 97, 2) := by decide +kernel
theorem dX8_step_111 : decode cX8_step 111 = .ok (.if_icmp .lt 45, 3) := by decide +kernel
theorem dX8_step_114 : decode cX8_step 114 = .ok (.aload_n 0, 1) := by decide +kernel
theorem dX8_step_115 : decode cX8_step 115 = .ok (.getfield 9, 3) := by decide +kernel
theorem dX8_step_118 : decode cX8_step 118 = .ok (.iload_n 1, 1) := by decide +kernel
theorem dX8_step_119 : decode cX8_step 119 = .ok (.caload, 1) := by decide +kernel
theorem dX8_step_120 : decode cX8_step 120 = .ok (.bipush 122, 2) := by decide +kernel
theorem dX8_step_122 : decode cX8_step 122 = .ok (.if_icmp .gt 34, 3) := by decide +kernel
theorem dX8_step_125 : decode cX8_step 125 = .ok (.aload_n 0, 1) := by decide +kernel
theorem dX8_step_126 : decode cX8_step 126 = .ok (.aload_n 0, 1) := by decide +kernel
theorem dX8_step_127 : decode cX8_step 127 = .ok (.getfield 31, 3) := by decide +kernel
theorem dX8_step_130 : decode cX8_step 130 = .ok (.ldc2_w 38, 3) := by decide +kernel
theorem dX8_step_133 : decode cX8_step 133 = .ok (.lmul, 1) := by decide +kernel
theorem dX8_step_134 : decode cX8_step 134 = .ok (.aload_n 0, 1) := by decide +kernel
theorem dX8_step_135 : decode cX8_step 135 = .ok (.getfield 9, 3) := by decide +kernel
theorem dX8_step_138 : decode cX8_step 138 = .ok (.iload_n 1, 1) := by decide +kernel
theorem dX8_step_139 : decode cX8_step 139 = .ok (.caload, 1) := by decide +kernel
theorem dX8_step_140 : decode cX8_step 140 = .ok (.bipush 97, 2) := by decide +kernel
theorem dX8_step_142 : decode cX8_step 142 = .ok (.isub, 1) := by decide +kernel
theorem dX8_step_143 : decode cX8_step 143 = .ok (.iconst 1, 1) := by decide +kernel
theorem dX8_step_144 : decode cX8_step 144 = .ok (.iadd, 1) := by decide +kernel
theorem dX8_step_145 : decode cX8_step 145 = .ok (.i2l, 1) := by decide +kernel
theorem dX8_step_146 : decode cX8_step 146 = .ok (.ladd, 1) := by decide +kernel
theorem dX8_step_147 : decode cX8_step 147 = .ok (.putfield 31, 3) := by decide +kernel
theorem dX8_step_150 : decode cX8_step 150 = .ok (.iinc 1 1, 3) := by decide +kernel
theorem dX8_step_153 : decode cX8_step 153 = .ok (.goto (-58), 3) := by decide +kernel
theorem dX8_step_156 : decode cX8_step 156 = .ok (.aload_n 0, 1) := by decide +kernel
theorem dX8_step_157 : decode cX8_step 157 = .ok (.iload_n 1, 1) := by decide +kernel
theorem dX8_step_158 : decode cX8_step 158 = .ok (.aload_n 0, 1) := by decide +kernel
theorem dX8_step_159 : decode cX8_step 159 = .ok (.getfield 25, 3) := by decide +kernel
theorem dX8_step_162 : decode cX8_step 162 = .ok (.isub, 1) := by decide +kernel
theorem dX8_step_163 : decode cX8_step 163 = .ok (.bipush 8, 2) := by decide +kernel
theorem dX8_step_165 : decode cX8_step 165 = .ok (.if_icmp .gt 7, 3) := by decide +kernel
theorem dX8_step_168 : decode cX8_step 168 = .ok (.iconst 2, 1) := by decide +kernel
theorem dX8_step_169 : decode cX8_step 169 = .ok (.goto 4, 3) := by decide +kernel
theorem dX8_step_172 : decode cX8_step 172 = .ok (.iconst 1, 1) := by decide +kernel
theorem dX8_step_173 : decode cX8_step 173 = .ok (.putfield 35, 3) := by decide +kernel
theorem dX8_step_176 : decode cX8_step 176 = .ok (.goto 131, 3) := by decide +kernel
theorem dX8_step_179 : decode cX8_step 179 = .ok (.iload_n 2, 1) := by decide +kernel
theorem dX8_step_180 : decode cX8_step 180 = .ok (.bipush 48, 2) := by decide +kernel
theorem dX8_step_182 : decode cX8_step 182 = .ok (.if_icmp .lt 90, 3) := by decide +kernel
theorem dX8_step_185 : decode cX8_step 185 = .ok (.iload_n 2, 1) := by decide +kernel
theorem dX8_step_186 : decode cX8_step 186 = .ok (.bipush 57, 2) := by decide +kernel
theorem dX8_step_188 : decode cX8_step 188 = .ok (.if_icmp .gt 84, 3) := by decide +kernel
theorem dX8_step_191 : decode cX8_step 191 = .ok (.iload_n 1, 1) := by decide +kernel
theorem dX8_step_192 : decode cX8_step 192 = .ok (.aload_n 0, 1) := by decide +kernel
theorem dX8_step_193 : decode cX8_step 193 = .ok (.getfield 15, 3) := by decide +kernel
theorem dX8_step_196 : decode cX8_step 196 = .ok (.if_icmp .ge 54, 3) := by decide +kernel
theorem dX8_step_199 : decode cX8_step 199 = .ok (.aload_n 0, 1) := by decide +kernel
theorem dX8_step_200 : decode cX8_step 200 = .ok (.getfield 9, 3) := by decide +kernel
theorem dX8_step_203 : decode cX8_step 203 = .ok (.iload_n 1, 1) := by decide +kernel
theorem dX8_step_204 : decode cX8_step 204 = .ok (.caload, 1) := by decide +kernel
theorem dX8_step_205 : decode cX8_step 205 = .ok (.bipush 48, 2) := by decide +kernel
theorem dX8_step_207 : decode cX8_step 207 = .ok (.if_icmp .lt 43, 3) := by decide +kernel
theorem dX8_step_210 : decode cX8_step 210 = .ok (.aload_n 0, 1) := by decide +kernel
theorem dX8_step_211 : decode cX8_step 211 = .ok (.getfield 9, 3) := by decide +kernel
theorem dX8_step_214 : decode cX8_step 214 = .ok (.iload_n 1, 1) := by decide +kernel
theorem dX8_step_215 : decode cX8_step 215 = .ok (.caload, 1) := by decide +kernel
theorem dX8_step_216 : decode cX8_step 216 = .ok (.bipush 57, 2) := by decide +kernel
theorem dX8_step_218 : decode cX8_step 218 = .ok (.if_icmp .gt 32, 3) := by decide +kernel
theorem dX8_step_221 : decode cX8_step 221 = .ok (.aload_n 0, 1) := by decide +kernel
theorem dX8_step_222 : decode cX8_step 222 = .ok (.aload_n 0, 1) := by decide +kernel
theorem dX8_step_223 : decode cX8_step 223 = .ok (.getfield 31, 3) := by decide +kernel
theorem dX8_step_226 : decode cX8_step 226 = .ok (.ldc2_w 40, 3) := by decide +kernel
theorem dX8_step_229 : decode cX8_step 229 = .ok (.lmul, 1) := by decide +kernel
theorem dX8_step_230 : decode cX8_step 230 = .ok (.aload_n 0, 1) := by decide +kernel
theorem dX8_step_231 : decode cX8_step 231 = .ok (.getfield 9, 3) := by decide +kernel
theorem dX8_step_234 : decode cX8_step 234 = .ok (.iload_n 1, 1) := by decide +kernel
theorem dX8_step_235 : decode cX8_step 235 = .ok (.caload, 1) := by decide +kernel
theorem dX8_step_236 : decode cX8_step 236 = .ok (.bipush 48, 2) := by decide +kernel
theorem dX8_step_238 : decode cX8_step 238 = .ok (.isub, 1) := by decide +kernel
theorem dX8_step_239 : decode cX8_step 239 = .ok (.i2l, 1) := by decide +kernel
theorem dX8_step_240 : decode cX8_step 240 = .ok (.ladd, 1) := by decide +kernel
theorem dX8_step_241 : decode cX8_step 241 = .ok (.putfield 31, 3) := by decide +kernel
theorem dX8_step_244 : decode cX8_step 244 = .ok (.iinc 1 1, 3) := by decide +kernel
theorem dX8_step_247 : decode cX8_step 247 = .ok (.goto (-56), 3) := by decide +kernel
theorem dX8_step_250 : decode cX8_step 250 = .ok (.aload_n 0, 1) := by decide +kernel
theorem dX8_step_251 : decode cX8_step 251 = .ok (.iload_n 1, 1) := by decide +kernel
theorem dX8_step_252 : decode cX8_step 252 = .ok (.aload_n 0, 1) := by decide +kernel
theorem dX8_step_253 : decode cX8_step 253 = .ok (.getfield 25, 3) := by decide +kernel
theorem dX8_step_256 : decode cX8_step 256 = .ok (.isub, 1) := by decide +kernel
theorem dX8_step_257 : decode cX8_step 257 = .ok (.iconst 4, 1) := by decide +kernel
theorem dX8_step_258 : decode cX8_step 258 = .ok (.if_icmp .gt 7, 3) := by decide +kernel
theorem dX8_step_261 : decode cX8_step 261 = .ok (.iconst 3, 1) := by decide +kernel
theorem dX8_step_262 : decode cX8_step 262 = .ok (.goto 4, 3) := by decide +kernel
theorem dX8_step_265 : decode cX8_step 265 = .ok (.iconst 1, 1) := by decide +kernel
theorem dX8_step_266 : decode cX8_step 266 = .ok (.putfield 35, 3) := by decide +kernel
theorem dX8_step_269 : decode cX8_step 269 = .ok (.goto 38, 3) := by decide +kernel
theorem dX8_step_272 : decode cX8_step 272 = .ok (.iload_n 1, 1) := by decide +kernel
theorem dX8_step_273 : decode cX8_step 273 = .ok (.aload_n 0, 1) := by decide +kernel
theorem dX8_step_274 : decode cX8_step 274 = .ok (.getfield 15, 3) := by decide +kernel
theorem dX8_step_277 : decode cX8_step 277 = .ok (.if_icmp .ge 30, 3) := by decide +kernel
theorem dX8_step_280 : decode cX8_step 280 = .ok (.aload_n 0, 1) := by decide +kernel
theorem dX8_step_281 : decode cX8_step 281 = .ok (.iload_n 2, 1) := by decide +kernel
theorem dX8_step_282 : decode cX8_step 282 = .ok (.i2l, 1) := by decide +kernel
theorem dX8_step_283 : decode cX8_step 283 = .ok (.putfield 31, 3) := by decide +kernel
theorem dX8_step_286 : decode cX8_step 286 = .ok (.aload_n 0, 1) := by decide +kernel
theorem dX8_step_287 : decode cX8_step 287 = .ok (.ldc 42, 2) := by decide +kernel
theorem dX8_step_289 : decode cX8_step 289 = .ok (.iload_n 2, 1) := by decide +kernel
theorem dX8_step_290 : decode cX8_step 290 = .ok (.invokevirtual 44, 3) := by decide +kernel
theorem dX8_step_293 : decode cX8_step 293 = .ok (.ifCond .lt 7, 3) := by decide +kernel
theorem dX8_step_296 : decode cX8_step 296 = .ok (.iconst 4, 1) := by decide +kernel
theorem dX8_step_297 : decode cX8_step 297 = .ok (.goto 4, 3) := by decide +kernel
theorem dX8_step_300 : decode cX8_step 300 = .ok (.iconst 1, 1) := by decide +kernel
theorem dX8_step_301 : decode cX8_step 301 = .ok (.putfield 35, 3) := by decide +kernel
theorem dX8_step_304 : decode cX8_step 304 = .ok (.iinc 1 1, 3) := by decide +kernel
theorem dX8_step_307 : decode cX8_step 307 = .ok (.aload_n 0, 1) := by decide +kernel
theorem dX8_step_308 : decode cX8_step 308 = .ok (.iload_n 1, 1) := by decide +kernel
theorem dX8_step_309 : decode cX8_step 309 = .ok (.putfield 19, 3) := by decide +kernel
theorem dX8_step_312 : decode cX8_step 312 = .ok (.return_, 1) := by decide +kernel
theorem dX8_isSign_0 : decode cX8_isSign 0 = .ok (.aload_n 0, 1) := by decide +kernel
theorem dX8_isSign_1 : decode cX8_isSign 1 = .ok (.getfield 35, 3) := by decide +kernel
theorem dX8_isSign_4 : decode cX8_isSign 4 = .ok (.iconst 4, 1) := by decide +kernel
theorem dX8_isSign_5 : decode cX8_isSign 5 = .ok (.if_icmp .ne 17, 3) := by decide +kernel
theorem dX8_isSign_8 : decode cX8_isSign 8 = .ok (.aload_n 0, 1) := by decide +kernel
theorem dX8_isSign_9 : decode cX8_isSign 9 = .ok (.getfield 31, 3) := by decide +kernel
theorem dX8_isSign_12 : decode cX8_isSign 12 = .ok (.iload_n 1, 1) := by decide +kernel
theorem dX8_isSign_13 : decode cX8_isSign 13 = .ok (.i2l, 1) := by decide +kernel
theorem dX8_isSign_14 : decode cX8_isSign 14 = .ok (.lcmp, 1) := by decide +kernel
theorem dX8_isSign_15 : decode cX8_isSign 15 = .ok (.ifCond .ne 7, 3) := by decide +kernel
theorem dX8_isSign_18 : decode cX8_isSign 18 = .ok (.iconst 1, 1) := by decide +kernel
theorem dX8_isSign_19 : decode cX8_isSign 19 = .ok (.goto 4, 3) := by decide +kernel
theorem dX8_isSign_22 : decode cX8_isSign 22 = .ok (.iconst 0, 1) := by decide +kernel
theorem dX8_isSign_23 : decode cX8_isSign 23 = .ok (.ireturn, 1) := by decide +kernel
theorem dX8_wordAmong_0 : decode cX8_wordAmong 0 = .ok (.iconst 0, 1) := by decide +kernel
theorem dX8_wordAmong_1 : decode cX8_wordAmong 1 = .ok (.istore_n 2, 1) := by decide +kernel
theorem dX8_wordAmong_2 : decode cX8_wordAmong 2 = .ok (.lconst 0, 1) := by decide +kernel
theorem dX8_wordAmong_3 : decode cX8_wordAmong 3 = .ok (.lstore_n 3, 1) := by decide +kernel
theorem dX8_wordAmong_4 : decode cX8_wordAmong 4 = .ok (.iconst 0, 1) := by decide +kernel
theorem dX8_wordAmong_5 : decode cX8_wordAmong 5 = .ok (.istore 5, 2) := by decide +kernel
theorem dX8_wordAmong_7 : decode cX8_wordAmong 7 = .ok (.aload_n 0, 1) := by decide +kernel
theorem dX8_wordAmong_8 : decode cX8_wordAmong 8 = .ok (.getfield 35, 3) := by decide +kernel
theorem dX8_wordAmong_11 : decode cX8_wordAmong 11 = .ok (.iconst 2, 1) := by decide +kernel
theorem dX8_wordAmong_12 : decode cX8_wordAmong 12 = .ok (.if_icmp .ne 67, 3) := by decide +kernel
theorem dX8_wordAmong_15 : decode cX8_wordAmong 15 = .ok (.iload 5, 2) := by decide +kernel
theorem dX8_wordAmong_17 : decode cX8_wordAmong 17 = .ok (.aload_n 1, 1) := by decide +kernel
theorem dX8_wordAmong_18 : decode cX8_wordAmong 18 = .ok (.invokevirtual 50, 3) := by decide +kernel
theorem dX8_wordAmong_21 : decode cX8_wordAmong 21 = .ok (.if_icmp .ge 58, 3) := by decide +kernel
theorem dX8_wordAmong_24 : decode cX8_wordAmong 24 = .ok (.aload_n 1, 1) := by decide +kernel
theorem dX8_wordAmong_25 : decode cX8_wordAmong 25 = .ok (.iload 5, 2) := by decide +kernel
theorem dX8_wordAmong_27 : decode cX8_wordAmong 27 = .ok (.invokevirtual 53, 3) := by decide +kernel
theorem dX8_wordAmong_30 : decode cX8_wordAmong 30 = .ok (.istore 6, 2) := by decide +kernel
theorem dX8_wordAmong_32 : decode cX8_wordAmong 32 = .ok (.iload 6, 2) := by decide +kernel
theorem dX8_wordAmong_34 : decode cX8_wordAmong 34 = .ok (.bipush 32, 2) := by decide +kernel
theorem dX8_wordAmong_36 : decode cX8_wordAmong 36 = .ok (.if_icmp .eq 21, 3) := by decide +kernel
theorem dX8_wordAmong_39 : decode cX8_wordAmong 39 = .ok (.lload_n 3, 1) := by decide +kernel
theorem dX8_wordAmong_40 : decode cX8_wordAmong 40 = .ok (.ldc2_w 38, 3) := by decide +kernel
theorem dX8_wordAmong_43 : decode cX8_wordAmong 43 = .ok (.lmul, 1) := by decide +kernel
theorem dX8_wordAmong_44 : decode cX8_wordAmong 44 = .ok (.iload 6, 2) := by decide +kernel
theorem dX8_wordAmong_46 : decode cX8_wordAmong 46 = .ok (.bipush 97, 2) := by decide +kernel
theorem dX8_wordAmong_48 : decode cX8_wordAmong 48 = .ok (.isub, 1) := by decide +kernel
theorem dX8_wordAmong_49 : decode cX8_wordAmong 49 = .ok (.iconst 1, 1) := by decide +kernel
theorem dX8_wordAmong_50 : decode cX8_wordAmong 50 = .ok (.iadd, 1) := by decide +kernel
theorem dX8_wordAmong_51 : decode cX8_wordAmong 51 = .ok (.i2l, 1) := by decide +kernel
theorem dX8_wordAmong_52 : decode cX8_wordAmong 52 = .ok (.ladd, 1) := by decide +kernel
theorem dX8_wordAmong_53 : decode cX8_wordAmong 53 = .ok (.lstore_n 3, 1) := by decide +kernel
theorem dX8_wordAmong_54 : decode cX8_wordAmong 54 = .ok (.goto 19, 3) := by decide +kernel
theorem dX8_wordAmong_57 : decode cX8_wordAmong 57 = .ok (.lload_n 3, 1) := by decide +kernel
theorem dX8_wordAmong_58 : decode cX8_wordAmong 58 = .ok (.aload_n 0, 1) := by decide +kernel
theorem dX8_wordAmong_59 : decode cX8_wordAmong 59 = .ok (.getfield 31, 3) := by decide +kernel
theorem dX8_wordAmong_62 : decode cX8_wordAmong 62 = .ok (.lcmp, 1) := by decide +kernel
theorem dX8_wordAmong_63 : decode cX8_wordAmong 63 = .ok (.ifCond .ne 5, 3) := by decide +kernel
theorem dX8_wordAmong_66 : decode cX8_wordAmong 66 = .ok (.iload_n 2, 1) := by decide +kernel
theorem dX8_wordAmong_67 : decode cX8_wordAmong 67 = .ok (.ireturn, 1) := by decide +kernel
theorem dX8_wordAmong_68 : decode cX8_wordAmong 68 = .ok (.lconst 0, 1) := by decide +kernel
theorem dX8_wordAmong_69 : decode cX8_wordAmong 69 = .ok (.lstore_n 3, 1) := by decide +kernel
theorem dX8_wordAmong_70 : decode cX8_wordAmong 70 = .ok (.iinc 2 1, 3) := by decide +kernel
theorem dX8_wordAmong_73 : decode cX8_wordAmong 73 = .ok (.iinc 5 1, 3) := by decide +kernel
theorem dX8_wordAmong_76 : decode cX8_wordAmong 76 = .ok (.goto (-69), 3) := by decide +kernel
theorem dX8_wordAmong_79 : decode cX8_wordAmong 79 = .ok (.iconst (-1), 1) := by decide +kernel
theorem dX8_wordAmong_80 : decode cX8_wordAmong 80 = .ok (.ireturn, 1) := by decide +kernel
theorem dX9_init_0 : decode cX9_init 0 = .ok (.aload_n 0, 1) := by decide +kernel
theorem dX9_init_1 : decode cX9_init 1 = .ok (.invokespecial 3, 3) := by decide +kernel
theorem dX9_init_4 : decode cX9_init 4 = .ok (.aload_n 0, 1) := by decide +kernel
theorem dX9_init_5 : decode cX9_init 5 = .ok (.iconst 4, 1) := by decide +kernel
theorem dX9_init_6 : decode cX9_init 6 = .ok (.newarray .int, 2) := by decide +kernel
theorem dX9_init_8 : decode cX9_init 8 = .ok (.putfield 9, 3) := by decide +kernel
theorem dX9_init_11 : decode cX9_init 11 = .ok (.aload_n 0, 1) := by decide +kernel
theorem dX9_init_12 : decode cX9_init 12 = .ok (.iconst 4, 1) := by decide +kernel
theorem dX9_init_13 : decode cX9_init 13 = .ok (.newarray .int, 2) := by decide +kernel
theorem dX9_init_15 : decode cX9_init 15 = .ok (.putfield 15, 3) := by decide +kernel
theorem dX9_init_18 : decode cX9_init 18 = .ok (.aload_n 0, 1) := by decide +kernel
theorem dX9_init_19 : decode cX9_init 19 = .ok (.iconst 4, 1) := by decide +kernel
theorem dX9_init_20 : decode cX9_init 20 = .ok (.newarray .int, 2) := by decide +kernel
theorem dX9_init_22 : decode cX9_init 22 = .ok (.putfield 18, 3) := by decide +kernel
theorem dX9_init_25 : decode cX9_init 25 = .ok (.return_, 1) := by decide +kernel
theorem dX9_settle_0 : decode cX9_settle 0 = .ok (.aload_n 0, 1) := by decide +kernel
theorem dX9_settle_1 : decode cX9_settle 1 = .ok (.aload_n 1, 1) := by decide +kernel
theorem dX9_settle_2 : decode cX9_settle 2 = .ok (.iload_n 2, 1) := by decide +kernel
theorem dX9_settle_3 : decode cX9_settle 3 = .ok (.invokevirtual 21, 3) := by decide +kernel
theorem dX9_settle_6 : decode cX9_settle 6 = .ok (.aload_n 0, 1) := by decide +kernel
theorem dX9_settle_7 : decode cX9_settle 7 = .ok (.getfield 18, 3) := by decide +kernel
theorem dX9_settle_10 : decode cX9_settle 10 = .ok (.iconst 0, 1) := by decide +kernel
theorem dX9_settle_11 : decode cX9_settle 11 = .ok (.invokestatic 25, 3) := by decide +kernel
theorem dX9_settle_14 : decode cX9_settle 14 = .ok (.iconst 0, 1) := by decide +kernel
theorem dX9_settle_15 : decode cX9_settle 15 = .ok (.istore_n 3, 1) := by decide +kernel
theorem dX9_settle_16 : decode cX9_settle 16 = .ok (.iload_n 3, 1) := by decide +kernel
theorem dX9_settle_17 : decode cX9_settle 17 = .ok (.aload_n 1, 1) := by decide +kernel
theorem dX9_settle_18 : decode cX9_settle 18 = .ok (.getfield 31, 3) := by decide +kernel
theorem dX9_settle_21 : decode cX9_settle 21 = .ok (.if_icmp .ge 15, 3) := by decide +kernel
theorem dX9_settle_24 : decode cX9_settle 24 = .ok (.aload_n 0, 1) := by decide +kernel
theorem dX9_settle_25 : decode cX9_settle 25 = .ok (.aload_n 1, 1) := by decide +kernel
theorem dX9_settle_26 : decode cX9_settle 26 = .ok (.iload_n 2, 1) := by decide +kernel
theorem dX9_settle_27 : decode cX9_settle 27 = .ok (.invokevirtual 36, 3) := by decide +kernel
theorem dX9_settle_30 : decode cX9_settle 30 = .ok (.iinc 3 1, 3) := by decide +kernel
theorem dX9_settle_33 : decode cX9_settle 33 = .ok (.goto (-17), 3) := by decide +kernel
theorem dX9_settle_36 : decode cX9_settle 36 = .ok (.return_, 1) := by decide +kernel
theorem dX9_findPlan_0 : decode cX9_findPlan 0 = .ok (.iconst (-1), 1) := by decide +kernel
theorem dX9_findPlan_1 : decode cX9_findPlan 1 = .ok (.istore_n 3, 1) := by decide +kernel
theorem dX9_findPlan_2 : decode cX9_findPlan 2 = .ok (.iconst 0, 1) := by decide +kernel
theorem dX9_findPlan_3 : decode cX9_findPlan 3 = .ok (.istore 4, 2) := by decide +kernel
theorem dX9_findPlan_5 : decode cX9_findPlan 5 = .ok (.iload 4, 2) := by decide +kernel
theorem dX9_findPlan_7 : decode cX9_findPlan 7 = .ok (.iconst 1, 1) := by decide +kernel
theorem dX9_findPlan_8 : decode cX9_findPlan 8 = .ok (.iconst 2, 1) := by decide +kernel
theorem dX9_findPlan_9 : decode cX9_findPlan 9 = .ok (.aload_n 1, 1) := by decide +kernel
theorem dX9_findPlan_10 : decode cX9_findPlan 10 = .ok (.getfield 39, 3) := by decide +kernel
theorem dX9_findPlan_13 : decode cX9_findPlan 13 = .ok (.imul, 1) := by decide +kernel
theorem dX9_findPlan_14 : decode cX9_findPlan 14 = .ok (.ishl, 1) := by decide +kernel
theorem dX9_findPlan_15 : decode cX9_findPlan 15 = .ok (.if_icmp .ge 95, 3) := by decide +kernel
theorem dX9_findPlan_18 : decode cX9_findPlan 18 = .ok (.iconst (-1), 1) := by decide +kernel
theorem dX9_findPlan_19 : decode cX9_findPlan 19 = .ok (.istore 5, 2) := by decide +kernel
theorem dX9_findPlan_21 : decode cX9_findPlan 21 = .ok (.aload_n 1, 1) := by decide +kernel
theorem dX9_findPlan_22 : decode cX9_findPlan 22 = .ok (.iload 4, 2) := by decide +kernel
theorem dX9_findPlan_24 : decode cX9_findPlan 24 = .ok (.aload_n 0, 1) := by decide +kernel
theorem dX9_findPlan_25 : decode cX9_findPlan 25 = .ok (.getfield 9, 3) := by decide +kernel
theorem dX9_findPlan_28 : decode cX9_findPlan 28 = .ok (.invokevirtual 42, 3) := by decide +kernel
theorem dX9_findPlan_31 : decode cX9_findPlan 31 = .ok (.ifCond .eq 44, 3) := by decide +kernel
theorem dX9_findPlan_34 : decode cX9_findPlan 34 = .ok (.iconst 0, 1) := by decide +kernel
theorem dX9_findPlan_35 : decode cX9_findPlan 35 = .ok (.istore 5, 2) := by decide +kernel
theorem dX9_findPlan_37 : decode cX9_findPlan 37 = .ok (.iconst 0, 1) := by decide +kernel
theorem dX9_findPlan_38 : decode cX9_findPlan 38 = .ok (.istore 6, 2) := by decide +kernel
theorem dX9_findPlan_40 : decode cX9_findPlan 40 = .ok (.iload 6, 2) := by decide +kernel
theorem dX9_findPlan_42 : decode cX9_findPlan 42 = .ok (.aload_n 1, 1) := by decide +kernel
theorem dX9_findPlan_43 : decode cX9_findPlan 43 = .ok (.getfield 39, 3) := by decide +kernel
theorem dX9_findPlan_46 : decode cX9_findPlan 46 = .ok (.if_icmp .ge 29, 3) := by decide +kernel
theorem dX9_findPlan_49 : decode cX9_findPlan 49 = .ok (.iload 5, 2) := by decide +kernel
theorem dX9_findPlan_51 : decode cX9_findPlan 51 = .ok (.aload_n 1, 1) := by decide +kernel
theorem dX9_findPlan_52 : decode cX9_findPlan 52 = .ok (.iload_n 2, 1) := by decide +kernel
theorem dX9_findPlan_53 : decode cX9_findPlan 53 = .ok (.iload 6, 2) := by decide +kernel
theorem dX9_findPlan_55 : decode cX9_findPlan 55 = .ok (.aload_n 0, 1) := by decide +kernel
theorem dX9_findPlan_56 : decode cX9_findPlan 56 = .ok (.getfield 9, 3) := by decide +kernel
theorem dX9_findPlan_59 : decode cX9_findPlan 59 = .ok (.iload 6, 2) := by decide +kernel
theorem dX9_findPlan_61 : decode cX9_findPlan 61 = .ok (.iaload, 1) := by decide +kernel
theorem dX9_findPlan_62 : decode cX9_findPlan 62 = .ok (.iconst 0, 1) := by decide +kernel
theorem dX9_findPlan_63 : decode cX9_findPlan 63 = .ok (.invokevirtual 46, 3) := by decide +kernel
theorem dX9_findPlan_66 : decode cX9_findPlan 66 = .ok (.iadd, 1) := by decide +kernel
theorem dX9_findPlan_67 : decode cX9_findPlan 67 = .ok (.istore 5, 2) := by decide +kernel
theorem dX9_findPlan_69 : decode cX9_findPlan 69 = .ok (.iinc 6 1, 3) := by decide +kernel
theorem dX9_findPlan_72 : decode cX9_findPlan 72 = .ok (.goto (-32), 3) := by decide +kernel
theorem dX9_findPlan_75 : decode cX9_findPlan 75 = .ok (.iload 5, 2) := by decide +kernel
theorem dX9_findPlan_77 : decode cX9_findPlan 77 = .ok (.iload_n 3, 1) := by decide +kernel
theorem dX9_findPlan_78 : decode cX9_findPlan 78 = .ok (.if_icmp .le 26, 3) := by decide +kernel
theorem dX9_findPlan_81 : decode cX9_findPlan 81 = .ok (.iload 5, 2) := by decide +kernel
theorem dX9_findPlan_83 : decode cX9_findPlan 83 = .ok (.istore_n 3, 1) := by decide +kernel
theorem dX9_findPlan_84 : decode cX9_findPlan 84 = .ok (.aload_n 0, 1) := by decide +kernel
theorem dX9_findPlan_85 : decode cX9_findPlan 85 = .ok (.iload 4, 2) := by decide +kernel
theorem dX9_findPlan_87 : decode cX9_findPlan 87 = .ok (.putfield 50, 3) := by decide +kernel
theorem dX9_findPlan_90 : decode cX9_findPlan 90 = .ok (.aload_n 0, 1) := by decide +kernel
theorem dX9_findPlan_91 : decode cX9_findPlan 91 = .ok (.getfield 9, 3) := by decide +kernel
theorem dX9_findPlan_94 : decode cX9_findPlan 94 = .ok (.iconst 0, 1) := by decide +kernel
theorem dX9_findPlan_95 : decode cX9_findPlan 95 = .ok (.aload_n 0, 1) := by decide +kernel
theorem dX9_findPlan_96 : decode cX9_findPlan 96 = .ok (.getfield 15, 3) := by decide +kernel
theorem dX9_findPlan_99 : decode cX9_findPlan 99 = .ok (.iconst 0, 1) := by decide +kernel
theorem dX9_findPlan_100 : decode cX9_findPlan 100 = .ok (.iconst 4, 1) := by decide +kernel
theorem dX9_findPlan_101 : decode cX9_findPlan 101 = .ok (.invokestatic 53, 3) := by decide +kernel
theorem dX9_findPlan_104 : decode cX9_findPlan 104 = .ok (.iinc 4 1, 3) := by decide +kernel
theorem dX9_findPlan_107 : decode cX9_findPlan 107 = .ok (.goto (-102), 3) := by decide +kernel
theorem dX9_findPlan_110 : decode cX9_findPlan 110 = .ok (.return_, 1) := by decide +kernel
theorem dX9_pushUp_0 : decode cX9_pushUp 0 = .ok (.iconst 0, 1) := by decide +kernel
theorem dX9_pushUp_1 : decode cX9_pushUp 1 = .ok (.istore_n 3, 1) := by decide +kernel
theorem dX9_pushUp_2 : decode cX9_pushUp 2 = .ok (.iload_n 3, 1) := by decide +kernel
theorem dX9_pushUp_3 : decode cX9_pushUp 3 = .ok (.aload_n 1, 1) := by decide +kernel
theorem dX9_pushUp_4 : decode cX9_pushUp 4 = .ok (.getfield 39, 3) := by decide +kernel
theorem dX9_pushUp_7 : decode cX9_pushUp 7 = .ok (.if_icmp .ge 83, 3) := by decide +kernel
theorem dX9_pushUp_10 : decode cX9_pushUp 10 = .ok (.aload_n 0, 1) := by decide +kernel
theorem dX9_pushUp_11 : decode cX9_pushUp 11 = .ok (.getfield 15, 3) := by decide +kernel
theorem dX9_pushUp_14 : decode cX9_pushUp 14 = .ok (.iload_n 3, 1) := by decide +kernel
theorem dX9_pushUp_15 : decode cX9_pushUp 15 = .ok (.iaload, 1) := by decide +kernel
theorem dX9_pushUp_16 : decode cX9_pushUp 16 = .ok (.istore 4, 2) := by decide +kernel
theorem dX9_pushUp_18 : decode cX9_pushUp 18 = .ok (.aload_n 1, 1) := by decide +kernel
theorem dX9_pushUp_19 : decode cX9_pushUp 19 = .ok (.iload_n 2, 1) := by decide +kernel
theorem dX9_pushUp_20 : decode cX9_pushUp 20 = .ok (.iload_n 3, 1) := by decide +kernel
theorem dX9_pushUp_21 : decode cX9_pushUp 21 = .ok (.iload 4, 2) := by decide +kernel
theorem dX9_pushUp_23 : decode cX9_pushUp 23 = .ok (.iconst 0, 1) := by decide +kernel
theorem dX9_pushUp_24 : decode cX9_pushUp 24 = .ok (.invokevirtual 46, 3) := by decide +kernel
theorem dX9_pushUp_27 : decode cX9_pushUp 27 = .ok (.aload_n 0, 1) := by decide +kernel
theorem dX9_pushUp_28 : decode cX9_pushUp 28 = .ok (.getfield 18, 3) := by decide +kernel
theorem dX9_pushUp_31 : decode cX9_pushUp 31 = .ok (.iload 4, 2) := by decide +kernel
theorem dX9_pushUp_33 : decode cX9_pushUp 33 = .ok (.iaload, 1) := by decide +kernel
theorem dX9_pushUp_34 : decode cX9_pushUp 34 = .ok (.isub, 1) := by decide +kernel
theorem dX9_pushUp_35 : decode cX9_pushUp 35 = .ok (.istore 5, 2) := by decide +kernel
theorem dX9_pushUp_37 : decode cX9_pushUp 37 = .ok (.iconst 0, 1) := by decide +kernel
theorem dX9_pushUp_38 : decode cX9_pushUp 38 = .ok (.istore 6, 2) := by decide +kernel
theorem dX9_pushUp_40 : decode cX9_pushUp 40 = .ok (.iload 6, 2) := by decide +kernel
theorem dX9_pushUp_42 : decode cX9_pushUp 42 = .ok (.aload_n 1, 1) := by decide +kernel
theorem dX9_pushUp_43 : decode cX9_pushUp 43 = .ok (.getfield 31, 3) := by decide +kernel
theorem dX9_pushUp_46 : decode cX9_pushUp 46 = .ok (.if_icmp .ge 38, 3) := by decide +kernel
theorem dX9_pushUp_49 : decode cX9_pushUp 49 = .ok (.aload_n 0, 1) := by decide +kernel
theorem dX9_pushUp_50 : decode cX9_pushUp 50 = .ok (.getfield 18, 3) := by decide +kernel
theorem dX9_pushUp_53 : decode cX9_pushUp 53 = .ok (.iload 6, 2) := by decide +kernel
theorem dX9_pushUp_55 : decode cX9_pushUp 55 = .ok (.aload_n 0, 1) := by decide +kernel
theorem dX9_pushUp_56 : decode cX9_pushUp 56 = .ok (.getfield 18, 3) := by decide +kernel
theorem dX9_pushUp_59 : decode cX9_pushUp 59 = .ok (.iload 6, 2) := by decide +kernel
theorem dX9_pushUp_61 : decode cX9_pushUp 61 = .ok (.iaload, 1) := by decide +kernel
theorem dX9_pushUp_62 : decode cX9_pushUp 62 = .ok (.aload_n 1, 1) := by decide +kernel
theorem dX9_pushUp_63 : decode cX9_pushUp 63 = .ok (.iload_n 2, 1) := by decide +kernel
theorem dX9_pushUp_64 : decode cX9_pushUp 64 = .ok (.iload_n 3, 1) := by decide +kernel
theorem dX9_pushUp_65 : decode cX9_pushUp 65 = .ok (.iload 6, 2) := by decide +kernel
theorem dX9_pushUp_67 : decode cX9_pushUp 67 = .ok (.iconst 0, 1) := by decide +kernel
theorem dX9_pushUp_68 : decode cX9_pushUp 68 = .ok (.invokevirtual 46, 3) := by decide +kernel
theorem dX9_pushUp_71 : decode cX9_pushUp 71 = .ok (.iload 5, 2) := by decide +kernel
theorem dX9_pushUp_73 : decode cX9_pushUp 73 = .ok (.isub, 1) := by decide +kernel
theorem dX9_pushUp_74 : decode cX9_pushUp 74 = .ok (.invokestatic 59, 3) := by decide +kernel
theorem dX9_pushUp_77 : decode cX9_pushUp 77 = .ok (.iastore, 1) := by decide +kernel
theorem dX9_pushUp_78 : decode cX9_pushUp 78 = .ok (.iinc 6 1, 3) := by decide +kernel
theorem dX9_pushUp_81 : decode cX9_pushUp 81 = .ok (.goto (-41), 3) := by decide +kernel
theorem dX9_pushUp_84 : decode cX9_pushUp 84 = .ok (.iinc 3 1, 3) := by decide +kernel
theorem dX9_pushUp_87 : decode cX9_pushUp 87 = .ok (.goto (-85), 3) := by decide +kernel
theorem dX9_pushUp_90 : decode cX9_pushUp 90 = .ok (.return_, 1) := by decide +kernel
theorem dX10_init_0 : decode cX10_init 0 = .ok (.aload_n 0, 1) := by decide +kernel
theorem dX10_init_1 : decode cX10_init 1 = .ok (.invokespecial 3, 3) := by decide +kernel
theorem dX10_init_4 : decode cX10_init 4 = .ok (.aload_n 0, 1) := by decide +kernel
theorem dX10_init_5 : decode cX10_init 5 = .ok (.bipush 20, 2) := by decide +kernel
theorem dX10_init_7 : decode cX10_init 7 = .ok (.newarray .int, 2) := by decide +kernel
theorem dX10_init_9 : decode cX10_init 9 = .ok (.putfield 9, 3) := by decide +kernel
theorem dX10_init_12 : decode cX10_init 12 = .ok (.aload_n 0, 1) := by decide +kernel
theorem dX10_init_13 : decode cX10_init 13 = .ok (.bipush 20, 2) := by decide +kernel
theorem dX10_init_15 : decode cX10_init 15 = .ok (.newarray .int, 2) := by decide +kernel
theorem dX10_init_17 : decode cX10_init 17 = .ok (.putfield 15, 3) := by decide +kernel
theorem dX10_init_20 : decode cX10_init 20 = .ok (.return_, 1) := by decide +kernel
theorem dX11_init_0 : decode cX11_init 0 = .ok (.aload_n 0, 1) := by decide +kernel
theorem dX11_init_1 : decode cX11_init 1 = .ok (.invokespecial 1, 3) := by decide +kernel
theorem dX11_init_4 : decode cX11_init 4 = .ok (.aload_n 0, 1) := by decide +kernel
theorem dX11_init_5 : decode cX11_init 5 = .ok (.new 7, 3) := by decide +kernel
theorem dX11_init_8 : decode cX11_init 8 = .ok (.dup, 1) := by decide +kernel
theorem dX11_init_9 : decode cX11_init 9 = .ok (.invokespecial 9, 3) := by decide +kernel
theorem dX11_init_12 : decode cX11_init 12 = .ok (.putfield 10, 3) := by decide +kernel
theorem dX11_init_15 : decode cX11_init 15 = .ok (.aload_n 0, 1) := by decide +kernel
theorem dX11_init_16 : decode cX11_init 16 = .ok (.new 16, 3) := by decide +kernel
theorem dX11_init_19 : decode cX11_init 19 = .ok (.dup, 1) := by decide +kernel
theorem dX11_init_20 : decode cX11_init 20 = .ok (.aload_n 0, 1) := by decide +kernel
theorem dX11_init_21 : decode cX11_init 21 = .ok (.getfield 10, 3) := by decide +kernel
theorem dX11_init_24 : decode cX11_init 24 = .ok (.invokespecial 18, 3) := by decide +kernel
theorem dX11_init_27 : decode cX11_init 27 = .ok (.putfield 21, 3) := by decide +kernel
theorem dX11_init_30 : decode cX11_init 30 = .ok (.aload_n 0, 1) := by decide +kernel
theorem dX11_init_31 : decode cX11_init 31 = .ok (.new 25, 3) := by decide +kernel
theorem dX11_init_34 : decode cX11_init 34 = .ok (.dup, 1) := by decide +kernel
theorem dX11_init_35 : decode cX11_init 35 = .ok (.invokespecial 27, 3) := by decide +kernel
theorem dX11_init_38 : decode cX11_init 38 = .ok (.putfield 28, 3) := by decide +kernel
theorem dX11_init_41 : decode cX11_init 41 = .ok (.aload_n 0, 1) := by decide +kernel
theorem dX11_init_42 : decode cX11_init 42 = .ok (.new 25, 3) := by decide +kernel
theorem dX11_init_45 : decode cX11_init 45 = .ok (.dup, 1) := by decide +kernel
theorem dX11_init_46 : decode cX11_init 46 = .ok (.invokespecial 27, 3) := by decide +kernel
theorem dX11_init_49 : decode cX11_init 49 = .ok (.putfield 32, 3) := by decide +kernel
theorem dX11_init_52 : decode cX11_init 52 = .ok (.aload_n 0, 1) := by decide +kernel
theorem dX11_init_53 : decode cX11_init 53 = .ok (.new 35, 3) := by decide +kernel
theorem dX11_init_56 : decode cX11_init 56 = .ok (.dup, 1) := by decide +kernel
theorem dX11_init_57 : decode cX11_init 57 = .ok (.invokespecial 37, 3) := by decide +kernel
theorem dX11_init_60 : decode cX11_init 60 = .ok (.putfield 38, 3) := by decide +kernel
theorem dX11_init_63 : decode cX11_init 63 = .ok (.aload_n 0, 1) := by decide +kernel
theorem dX11_init_64 : decode cX11_init 64 = .ok (.new 35, 3) := by decide +kernel
theorem dX11_init_67 : decode cX11_init 67 = .ok (.dup, 1) := by decide +kernel
theorem dX11_init_68 : decode cX11_init 68 = .ok (.invokespecial 37, 3) := by decide +kernel
theorem dX11_init_71 : decode cX11_init 71 = .ok (.putfield 42, 3) := by decide +kernel
theorem dX11_init_74 : decode cX11_init 74 = .ok (.aload_n 0, 1) := by decide +kernel
theorem dX11_init_75 : decode cX11_init 75 = .ok (.new 45, 3) := by decide +kernel
theorem dX11_init_78 : decode cX11_init 78 = .ok (.dup, 1) := by decide +kernel
theorem dX11_init_79 : decode cX11_init 79 = .ok (.invokespecial 47, 3) := by decide +kernel
theorem dX11_init_82 : decode cX11_init 82 = .ok (.putfield 48, 3) := by decide +kernel
theorem dX11_init_85 : decode cX11_init 85 = .ok (.aload_n 0, 1) := by decide +kernel
theorem dX11_init_86 : decode cX11_init 86 = .ok (.iconst 4, 1) := by decide +kernel
theorem dX11_init_87 : decode cX11_init 87 = .ok (.anewarray 45, 3) := by decide +kernel
theorem dX11_init_90 : decode cX11_init 90 = .ok (.putfield 52, 3) := by decide +kernel
theorem dX11_init_93 : decode cX11_init 93 = .ok (.iconst 0, 1) := by decide +kernel
theorem dX11_init_94 : decode cX11_init 94 = .ok (.istore_n 1, 1) := by decide +kernel
theorem dX11_init_95 : decode cX11_init 95 = .ok (.iload_n 1, 1) := by decide +kernel
theorem dX11_init_96 : decode cX11_init 96 = .ok (.iconst 4, 1) := by decide +kernel
theorem dX11_init_97 : decode cX11_init 97 = .ok (.if_icmp .ge 22, 3) := by decide +kernel
theorem dX11_init_100 : decode cX11_init 100 = .ok (.aload_n 0, 1) := by decide +kernel
theorem dX11_init_101 : decode cX11_init 101 = .ok (.getfield 52, 3) := by decide +kernel
theorem dX11_init_104 : decode cX11_init 104 = .ok (.iload_n 1, 1) := by decide +kernel
theorem dX11_init_105 : decode cX11_init 105 = .ok (.new 45, 3) := by decide +kernel
theorem dX11_init_108 : decode cX11_init 108 = .ok (.dup, 1) := by decide +kernel
theorem dX11_init_109 : decode cX11_init 109 = .ok (.invokespecial 47, 3) := by decide +kernel
theorem dX11_init_112 : decode cX11_init 112 = .ok (.aastore, 1) := by decide +kernel
theorem dX11_init_113 : decode cX11_init 113 = .ok (.iinc 1 1, 3) := by decide +kernel
theorem dX11_init_116 : decode cX11_init 116 = .ok (.goto (-21), 3) := by decide +kernel
theorem dX11_init_119 : decode cX11_init 119 = .ok (.aload_n 0, 1) := by decide +kernel
theorem dX11_init_120 : decode cX11_init 120 = .ok (.bipush 16, 2) := by decide +kernel
theorem dX11_init_122 : decode cX11_init 122 = .ok (.anewarray 56, 3) := by decide +kernel
theorem dX11_init_125 : decode cX11_init 125 = .ok (.putfield 58, 3) := by decide +kernel
theorem dX11_init_128 : decode cX11_init 128 = .ok (.iconst 0, 1) := by decide +kernel
theorem dX11_init_129 : decode cX11_init 129 = .ok (.istore_n 1, 1) := by decide +kernel
theorem dX11_init_130 : decode cX11_init 130 = .ok (.iload_n 1, 1) := by decide +kernel
theorem dX11_init_131 : decode cX11_init 131 = .ok (.bipush 16, 2) := by decide +kernel
theorem dX11_init_133 : decode cX11_init 133 = .ok (.if_icmp .ge 22, 3) := by decide +kernel
theorem dX11_init_136 : decode cX11_init 136 = .ok (.aload_n 0, 1) := by decide +kernel
theorem dX11_init_137 : decode cX11_init 137 = .ok (.getfield 58, 3) := by decide +kernel
theorem dX11_init_140 : decode cX11_init 140 = .ok (.iload_n 1, 1) := by decide +kernel
theorem dX11_init_141 : decode cX11_init 141 = .ok (.new 56, 3) := by decide +kernel
theorem dX11_init_144 : decode cX11_init 144 = .ok (.dup, 1) := by decide +kernel
theorem dX11_init_145 : decode cX11_init 145 = .ok (.invokespecial 62, 3) := by decide +kernel
theorem dX11_init_148 : decode cX11_init 148 = .ok (.aastore, 1) := by decide +kernel
theorem dX11_init_149 : decode cX11_init 149 = .ok (.iinc 1 1, 3) := by decide +kernel
theorem dX11_init_152 : decode cX11_init 152 = .ok (.goto (-22), 3) := by decide +kernel
theorem dX11_init_155 : decode cX11_init 155 = .ok (.aload_n 0, 1) := by decide +kernel
theorem dX11_init_156 : decode cX11_init 156 = .ok (.new 56, 3) := by decide +kernel
theorem dX11_init_159 : decode cX11_init 159 = .ok (.dup, 1) := by decide +kernel
theorem dX11_init_160 : decode cX11_init 160 = .ok (.invokespecial 62, 3) := by decide +kernel
theorem dX11_init_163 : decode cX11_init 163 = .ok (.putfield 63, 3) := by decide +kernel
theorem dX11_init_166 : decode cX11_init 166 = .ok (.aload_n 0, 1) := by decide +kernel
theorem dX11_init_167 : decode cX11_init 167 = .ok (.iconst 4, 1) := by decide +kernel
theorem dX11_init_168 : decode cX11_init 168 = .ok (.newarray .int, 2) := by decide +kernel
theorem dX11_init_170 : decode cX11_init 170 = .ok (.putfield 67, 3) := by decide +kernel
theorem dX11_init_173 : decode cX11_init 173 = .ok (.aload_n 0, 1) := by decide +kernel
theorem dX11_init_174 : decode cX11_init 174 = .ok (.iconst 4, 1) := by decide +kernel
theorem dX11_init_175 : decode cX11_init 175 = .ok (.newarray .int, 2) := by decide +kernel
theorem dX11_init_177 : decode cX11_init 177 = .ok (.putfield 71, 3) := by decide +kernel
theorem dX11_init_180 : decode cX11_init 180 = .ok (.aload_n 0, 1) := by decide +kernel
theorem dX11_init_181 : decode cX11_init 181 = .ok (.iconst 4, 1) := by decide +kernel
theorem dX11_init_182 : decode cX11_init 182 = .ok (.newarray .int, 2) := by decide +kernel
theorem dX11_init_184 : decode cX11_init 184 = .ok (.putfield 74, 3) := by decide +kernel
theorem dX11_init_187 : decode cX11_init 187 = .ok (.aload_n 0, 1) := by decide +kernel
theorem dX11_init_188 : decode cX11_init 188 = .ok (.bipush 16, 2) := by decide +kernel
theorem dX11_init_190 : decode cX11_init 190 = .ok (.newarray .int, 2) := by decide +kernel
theorem dX11_init_192 : decode cX11_init 192 = .ok (.putfield 77, 3) := by decide +kernel
theorem dX11_init_195 : decode cX11_init 195 = .ok (.aload_n 0, 1) := by decide +kernel
theorem dX11_init_196 : decode cX11_init 196 = .ok (.new 80, 3) := by decide +kernel
theorem dX11_init_199 : decode cX11_init 199 = .ok (.dup, 1) := by decide +kernel
theorem dX11_init_200 : decode cX11_init 200 = .ok (.invokespecial 82, 3) := by decide +kernel
theorem dX11_init_203 : decode cX11_init 203 = .ok (.putfield 83, 3) := by decide +kernel
theorem dX11_init_206 : decode cX11_init 206 = .ok (.aload_n 0, 1) := by decide +kernel
theorem dX11_init_207 : decode cX11_init 207 = .ok (.new 87, 3) := by decide +kernel
theorem dX11_init_210 : decode cX11_init 210 = .ok (.dup, 1) := by decide +kernel
theorem dX11_init_211 : decode cX11_init 211 = .ok (.invokespecial 89, 3) := by decide +kernel
theorem dX11_init_214 : decode cX11_init 214 = .ok (.putfield 90, 3) := by decide +kernel
theorem dX11_init_217 : decode cX11_init 217 = .ok (.aload_n 0, 1) := by decide +kernel
theorem dX11_init_218 : decode cX11_init 218 = .ok (.new 94, 3) := by decide +kernel
theorem dX11_init_221 : decode cX11_init 221 = .ok (.dup, 1) := by decide +kernel
theorem dX11_init_222 : decode cX11_init 222 = .ok (.invokespecial 96, 3) := by decide +kernel
theorem dX11_init_225 : decode cX11_init 225 = .ok (.putfield 97, 3) := by decide +kernel
theorem dX11_init_228 : decode cX11_init 228 = .ok (.aload_n 0, 1) := by decide +kernel
theorem dX11_init_229 : decode cX11_init 229 = .ok (.new 101, 3) := by decide +kernel
theorem dX11_init_232 : decode cX11_init 232 = .ok (.dup, 1) := by decide +kernel
theorem dX11_init_233 : decode cX11_init 233 = .ok (.invokespecial 103, 3) := by decide +kernel
theorem dX11_init_236 : decode cX11_init 236 = .ok (.putfield 104, 3) := by decide +kernel
theorem dX11_init_239 : decode cX11_init 239 = .ok (.aload_n 0, 1) := by decide +kernel
theorem dX11_init_240 : decode cX11_init 240 = .ok (.getfield 28, 3) := by decide +kernel
theorem dX11_init_243 : decode cX11_init 243 = .ok (.invokevirtual 108, 3) := by decide +kernel
theorem dX11_init_246 : decode cX11_init 246 = .ok (.aload_n 0, 1) := by decide +kernel
theorem dX11_init_247 : decode cX11_init 247 = .ok (.invokevirtual 111, 3) := by decide +kernel
theorem dX11_init_250 : decode cX11_init 250 = .ok (.return_, 1) := by decide +kernel
theorem dX11_feed_0 : decode cX11_feed 0 = .ok (.aload_n 0, 1) := by decide +kernel
theorem dX11_feed_1 : decode cX11_feed 1 = .ok (.getfield 10, 3) := by decide +kernel
theorem dX11_feed_4 : decode cX11_feed 4 = .ok (.lload_n 1, 1) := by decide +kernel
theorem dX11_feed_5 : decode cX11_feed 5 = .ok (.invokevirtual 114, 3) := by decide +kernel
theorem dX11_feed_8 : decode cX11_feed 8 = .ok (.aload_n 0, 1) := by decide +kernel
theorem dX11_feed_9 : decode cX11_feed 9 = .ok (.getfield 10, 3) := by decide +kernel
theorem dX11_feed_12 : decode cX11_feed 12 = .ok (.lload_n 3, 1) := by decide +kernel
theorem dX11_feed_13 : decode cX11_feed 13 = .ok (.invokevirtual 114, 3) := by decide +kernel
theorem dX11_feed_16 : decode cX11_feed 16 = .ok (.aload_n 0, 1) := by decide +kernel
theorem dX11_feed_17 : decode cX11_feed 17 = .ok (.getfield 10, 3) := by decide +kernel
theorem dX11_feed_20 : decode cX11_feed 20 = .ok (.lload 5, 2) := by decide +kernel
theorem dX11_feed_22 : decode cX11_feed 22 = .ok (.invokevirtual 114, 3) := by decide +kernel
theorem dX11_feed_25 : decode cX11_feed 25 = .ok (.aload_n 0, 1) := by decide +kernel
theorem dX11_feed_26 : decode cX11_feed 26 = .ok (.getfield 10, 3) := by decide +kernel
theorem dX11_feed_29 : decode cX11_feed 29 = .ok (.getfield 118, 3) := by decide +kernel
theorem dX11_feed_32 : decode cX11_feed 32 = .ok (.ireturn, 1) := by decide +kernel
theorem dX11_road_0 : decode cX11_road 0 = .ok (.aload_n 0, 1) := by decide +kernel
theorem dX11_road_1 : decode cX11_road 1 = .ok (.getfield 21, 3) := by decide +kernel
theorem dX11_road_4 : decode cX11_road 4 = .ok (.aload_n 0, 1) := by decide +kernel
theorem dX11_road_5 : decode cX11_road 5 = .ok (.getfield 32, 3) := by decide +kernel
theorem dX11_road_8 : decode cX11_road 8 = .ok (.invokevirtual 122, 3) := by decide +kernel
theorem dX11_road_11 : decode cX11_road 11 = .ok (.istore_n 1, 1) := by decide +kernel
theorem dX11_road_12 : decode cX11_road 12 = .ok (.iload_n 1, 1) := by decide +kernel
theorem dX11_road_13 : decode cX11_road 13 = .ok (.ifCond .ne 25, 3) := by decide +kernel
theorem dX11_road_16 : decode cX11_road 16 = .ok (.aload_n 0, 1) := by decide +kernel
theorem dX11_road_17 : decode cX11_road 17 = .ok (.getfield 28, 3) := by decide +kernel
theorem dX11_road_20 : decode cX11_road 20 = .ok (.astore_n 2, 1) := by decide +kernel
theorem dX11_road_21 : decode cX11_road 21 = .ok (.aload_n 0, 1) := by decide +kernel
theorem dX11_road_22 : decode cX11_road 22 = .ok (.aload_n 0, 1) := by decide +kernel
theorem dX11_road_23 : decode cX11_road 23 = .ok (.getfield 32, 3) := by decide +kernel
theorem dX11_road_26 : decode cX11_road 26 = .ok (.putfield 28, 3) := by decide +kernel
theorem dX11_road_29 : decode cX11_road 29 = .ok (.aload_n 0, 1) := by decide +kernel
theorem dX11_road_30 : decode cX11_road 30 = .ok (.aload_n 2, 1) := by decide +kernel
theorem dX11_road_31 : decode cX11_road 31 = .ok (.putfield 32, 3) := by decide +kernel
theorem dX11_road_34 : decode cX11_road 34 = .ok (.aload_n 0, 1) := by decide +kernel
theorem dX11_road_35 : decode cX11_road 35 = .ok (.invokevirtual 111, 3) := by decide +kernel
theorem dX11_road_38 : decode cX11_road 38 = .ok (.iload_n 1, 1) := by decide +kernel
theorem dX11_road_39 : decode cX11_road 39 = .ok (.ireturn, 1) := by decide +kernel
theorem dX11_journey_0 : decode cX11_journey 0 = .ok (.aload_n 0, 1) := by decide +kernel
theorem dX11_journey_1 : decode cX11_journey 1 = .ok (.getfield 21, 3) := by decide +kernel
theorem dX11_journey_4 : decode cX11_journey 4 = .ok (.aload_n 0, 1) := by decide +kernel
theorem dX11_journey_5 : decode cX11_journey 5 = .ok (.getfield 28, 3) := by decide +kernel
theorem dX11_journey_8 : decode cX11_journey 8 = .ok (.aload_n 0, 1) := by decide +kernel
theorem dX11_journey_9 : decode cX11_journey 9 = .ok (.getfield 42, 3) := by decide +kernel
theorem dX11_journey_12 : decode cX11_journey 12 = .ok (.invokevirtual 126, 3) := by decide +kernel
theorem dX11_journey_15 : decode cX11_journey 15 = .ok (.istore_n 1, 1) := by decide +kernel
theorem dX11_journey_16 : decode cX11_journey 16 = .ok (.iload_n 1, 1) := by decide +kernel
theorem dX11_journey_17 : decode cX11_journey 17 = .ok (.ifCond .ne 21, 3) := by decide +kernel
theorem dX11_journey_20 : decode cX11_journey 20 = .ok (.aload_n 0, 1) := by decide +kernel
theorem dX11_journey_21 : decode cX11_journey 21 = .ok (.getfield 38, 3) := by decide +kernel
theorem dX11_journey_24 : decode cX11_journey 24 = .ok (.astore_n 2, 1) := by decide +kernel
theorem dX11_journey_25 : decode cX11_journey 25 = .ok (.aload_n 0, 1) := by decide +kernel
theorem dX11_journey_26 : decode cX11_journey 26 = .ok (.aload_n 0, 1) := by decide +kernel
theorem dX11_journey_27 : decode cX11_journey 27 = .ok (.getfield 42, 3) := by decide +kernel
theorem dX11_journey_30 : decode cX11_journey 30 = .ok (.putfield 38, 3) := by decide +kernel
theorem dX11_journey_33 : decode cX11_journey 33 = .ok (.aload_n 0, 1) := by decide +kernel
theorem dX11_journey_34 : decode cX11_journey 34 = .ok (.aload_n 2, 1) := by decide +kernel
theorem dX11_journey_35 : decode cX11_journey 35 = .ok (.putfield 42, 3) := by decide +kernel
theorem dX11_journey_38 : decode cX11_journey 38 = .ok (.iload_n 1, 1) := by decide +kernel
theorem dX11_journey_39 : decode cX11_journey 39 = .ok (.ireturn, 1) := by decide +kernel
theorem dX11_shares_0 : decode cX11_shares 0 = .ok (.aload_n 0, 1) := by decide +kernel
theorem dX11_shares_1 : decode cX11_shares 1 = .ok (.getfield 21, 3) := by decide +kernel
theorem dX11_shares_4 : decode cX11_shares 4 = .ok (.aload_n 0, 1) := by decide +kernel
theorem dX11_shares_5 : decode cX11_shares 5 = .ok (.getfield 28, 3) := by decide +kernel
theorem dX11_shares_8 : decode cX11_shares 8 = .ok (.aload_n 0, 1) := by decide +kernel
theorem dX11_shares_9 : decode cX11_shares 9 = .ok (.getfield 77, 3) := by decide +kernel
theorem dX11_shares_12 : decode cX11_shares 12 = .ok (.invokevirtual 130, 3) := by decide +kernel
theorem dX11_shares_15 : decode cX11_shares 15 = .ok (.istore_n 1, 1) := by decide +kernel
theorem dX11_shares_16 : decode cX11_shares 16 = .ok (.iload_n 1, 1) := by decide +kernel
theorem dX11_shares_17 : decode cX11_shares 17 = .ok (.ifCond .ne 32, 3) := by decide +kernel
theorem dX11_shares_20 : decode cX11_shares 20 = .ok (.aload_n 0, 1) := by decide +kernel
theorem dX11_shares_21 : decode cX11_shares 21 = .ok (.getfield 77, 3) := by decide +kernel
theorem dX11_shares_24 : decode cX11_shares 24 = .ok (.iconst 0, 1) := by decide +kernel
theorem dX11_shares_25 : decode cX11_shares 25 = .ok (.aload_n 0, 1) := by decide +kernel
theorem dX11_shares_26 : decode cX11_shares 26 = .ok (.getfield 48, 3) := by decide +kernel
theorem dX11_shares_29 : decode cX11_shares 29 = .ok (.getfield 134, 3) := by decide +kernel
theorem dX11_shares_32 : decode cX11_shares 32 = .ok (.iconst 0, 1) := by decide +kernel
theorem dX11_shares_33 : decode cX11_shares 33 = .ok (.aload_n 0, 1) := by decide +kernel
theorem dX11_shares_34 : decode cX11_shares 34 = .ok (.getfield 77, 3) := by decide +kernel
theorem dX11_shares_37 : decode cX11_shares 37 = .ok (.arraylength, 1) := by decide +kernel
theorem dX11_shares_38 : decode cX11_shares 38 = .ok (.invokestatic 137, 3) := by decide +kernel
theorem dX11_shares_41 : decode cX11_shares 41 = .ok (.aload_n 0, 1) := by decide +kernel
theorem dX11_shares_42 : decode cX11_shares 42 = .ok (.getfield 48, 3) := by decide +kernel
theorem dX11_shares_45 : decode cX11_shares 45 = .ok (.iconst 1, 1) := by decide +kernel
theorem dX11_shares_46 : decode cX11_shares 46 = .ok (.putfield 143, 3) := by decide +kernel
theorem dX11_shares_49 : decode cX11_shares 49 = .ok (.iload_n 1, 1) := by decide +kernel
theorem dX11_shares_50 : decode cX11_shares 50 = .ok (.ireturn, 1) := by decide +kernel
theorem dX11_rider_0 : decode cX11_rider 0 = .ok (.aload_n 0, 1) := by decide +kernel
theorem dX11_rider_1 : decode cX11_rider 1 = .ok (.iload_n 1, 1) := by decide +kernel
theorem dX11_rider_2 : decode cX11_rider 2 = .ok (.invokevirtual 147, 3) := by decide +kernel
theorem dX11_rider_5 : decode cX11_rider 5 = .ok (.ifCond .ne 13, 3) := by decide +kernel
theorem dX11_rider_8 : decode cX11_rider 8 = .ok (.new 151, 3) := by decide +kernel
theorem dX11_rider_11 : decode cX11_rider 11 = .ok (.dup, 1) := by decide +kernel
theorem dX11_rider_12 : decode cX11_rider 12 = .ok (.ldc 153, 2) := by decide +kernel
theorem dX11_rider_14 : decode cX11_rider 14 = .ok (.invokespecial 155, 3) := by decide +kernel
theorem dX11_rider_17 : decode cX11_rider 17 = .ok (.athrow, 1) := by decide +kernel
theorem dX11_rider_18 : decode cX11_rider 18 = .ok (.iload_n 2, 1) := by decide +kernel
theorem dX11_rider_19 : decode cX11_rider 19 = .ok (.tableswitch 89 0 4 #[33, 43, 53, 63, 76], 33) := by decide +kernel
theorem dX11_rider_52 : decode cX11_rider 52 = .ok (.aload_n 0, 1) := by decide +kernel
theorem dX11_rider_53 : decode cX11_rider 53 = .ok (.getfield 28, 3) := by decide +kernel
theorem dX11_rider_56 : decode cX11_rider 56 = .ok (.getfield 158, 3) := by decide +kernel
theorem dX11_rider_59 : decode cX11_rider 59 = .ok (.iload_n 1, 1) := by decide +kernel
theorem dX11_rider_60 : decode cX11_rider 60 = .ok (.iaload, 1) := by decide +kernel
theorem dX11_rider_61 : decode cX11_rider 61 = .ok (.ireturn, 1) := by decide +kernel
theorem dX11_rider_62 : decode cX11_rider 62 = .ok (.aload_n 0, 1) := by decide +kernel
theorem dX11_rider_63 : decode cX11_rider 63 = .ok (.getfield 28, 3) := by decide +kernel
theorem dX11_rider_66 : decode cX11_rider 66 = .ok (.getfield 161, 3) := by decide +kernel
theorem dX11_rider_69 : decode cX11_rider 69 = .ok (.iload_n 1, 1) := by decide +kernel
theorem dX11_rider_70 : decode cX11_rider 70 = .ok (.iaload, 1) := by decide +kernel
theorem dX11_rider_71 : decode cX11_rider 71 = .ok (.ireturn, 1) := by decide +kernel
theorem dX11_rider_72 : decode cX11_rider 72 = .ok (.aload_n 0, 1) := by decide +kernel
theorem dX11_rider_73 : decode cX11_rider 73 = .ok (.getfield 28, 3) := by decide +kernel
theorem dX11_rider_76 : decode cX11_rider 76 = .ok (.getfield 164, 3) := by decide +kernel
theorem dX11_rider_79 : decode cX11_rider 79 = .ok (.iload_n 1, 1) := by decide +kernel
theorem dX11_rider_80 : decode cX11_rider 80 = .ok (.iaload, 1) := by decide +kernel
theorem dX11_rider_81 : decode cX11_rider 81 = .ok (.ireturn, 1) := by decide +kernel
theorem dX11_rider_82 : decode cX11_rider 82 = .ok (.aload_n 0, 1) := by decide +kernel
theorem dX11_rider_83 : decode cX11_rider 83 = .ok (.getfield 48, 3) := by decide +kernel
theorem dX11_rider_86 : decode cX11_rider 86 = .ok (.getfield 167, 3) := by decide +kernel
theorem dX11_rider_89 : decode cX11_rider 89 = .ok (.getfield 170, 3) := by decide +kernel
theorem dX11_rider_92 : decode cX11_rider 92 = .ok (.iload_n 1, 1) := by decide +kernel
theorem dX11_rider_93 : decode cX11_rider 93 = .ok (.iaload, 1) := by decide +kernel
theorem dX11_rider_94 : decode cX11_rider 94 = .ok (.ireturn, 1) := by decide +kernel
theorem dX11_rider_95 : decode cX11_rider 95 = .ok (.aload_n 0, 1) := by decide +kernel
theorem dX11_rider_96 : decode cX11_rider 96 = .ok (.getfield 48, 3) := by decide +kernel
theorem dX11_rider_99 : decode cX11_rider 99 = .ok (.getfield 167, 3) := by decide +kernel
theorem dX11_rider_102 : decode cX11_rider 102 = .ok (.getfield 173, 3) := by decide +kernel
theorem dX11_rider_105 : decode cX11_rider 105 = .ok (.iload_n 1, 1) := by decide +kernel
theorem dX11_rider_106 : decode cX11_rider 106 = .ok (.iaload, 1) := by decide +kernel
theorem dX11_rider_107 : decode cX11_rider 107 = .ok (.ireturn, 1) := by decide +kernel
theorem dX11_rider_108 : decode cX11_rider 108 = .ok (.iconst (-1), 1) := by decide +kernel
theorem dX11_rider_109 : decode cX11_rider 109 = .ok (.ireturn, 1) := by decide +kernel
theorem dX11_stretch_0 : decode cX11_stretch 0 = .ok (.aload_n 0, 1) := by decide +kernel
theorem dX11_stretch_1 : decode cX11_stretch 1 = .ok (.iload_n 1, 1) := by decide +kernel
theorem dX11_stretch_2 : decode cX11_stretch 2 = .ok (.invokevirtual 176, 3) := by decide +kernel
theorem dX11_stretch_5 : decode cX11_stretch 5 = .ok (.ifCond .eq 18, 3) := by decide +kernel
theorem dX11_stretch_8 : decode cX11_stretch 8 = .ok (.iload_n 2, 1) := by decide +kernel
theorem dX11_stretch_9 : decode cX11_stretch 9 = .ok (.ifCond .lt 14, 3) := by decide +kernel
theorem dX11_stretch_12 : decode cX11_stretch 12 = .ok (.iload_n 2, 1) := by decide +kernel
theorem dX11_stretch_13 : decode cX11_stretch 13 = .ok (.aload_n 0, 1) := by decide +kernel
theorem dX11_stretch_14 : decode cX11_stretch 14 = .ok (.getfield 28, 3) := by decide +kernel
theorem dX11_stretch_17 : decode cX11_stretch 17 = .ok (.getfield 179, 3) := by decide +kernel
theorem dX11_stretch_20 : decode cX11_stretch 20 = .ok (.if_icmp .le 5, 3) := by decide +kernel
theorem dX11_stretch_23 : decode cX11_stretch 23 = .ok (.iconst (-1), 1) := by decide +kernel
theorem dX11_stretch_24 : decode cX11_stretch 24 = .ok (.ireturn, 1) := by decide +kernel
theorem dX11_stretch_25 : decode cX11_stretch 25 = .ok (.iload_n 2, 1) := by decide +kernel
theorem dX11_stretch_26 : decode cX11_stretch 26 = .ok (.ifCond .ne 14, 3) := by decide +kernel
theorem dX11_stretch_29 : decode cX11_stretch 29 = .ok (.aload_n 0, 1) := by decide +kernel
theorem dX11_stretch_30 : decode cX11_stretch 30 = .ok (.getfield 28, 3) := by decide +kernel
theorem dX11_stretch_33 : decode cX11_stretch 33 = .ok (.iload_n 1, 1) := by decide +kernel
theorem dX11_stretch_34 : decode cX11_stretch 34 = .ok (.invokevirtual 181, 3) := by decide +kernel
theorem dX11_stretch_37 : decode cX11_stretch 37 = .ok (.goto 14, 3) := by decide +kernel
theorem dX11_stretch_40 : decode cX11_stretch 40 = .ok (.aload_n 0, 1) := by decide +kernel
theorem dX11_stretch_41 : decode cX11_stretch 41 = .ok (.getfield 28, 3) := by decide +kernel
theorem dX11_stretch_44 : decode cX11_stretch 44 = .ok (.iload_n 1, 1) := by decide +kernel
theorem dX11_stretch_45 : decode cX11_stretch 45 = .ok (.iload_n 2, 1) := by decide +kernel
theorem dX11_stretch_46 : decode cX11_stretch 46 = .ok (.iconst 1, 1) := by decide +kernel
theorem dX11_stretch_47 : decode cX11_stretch 47 = .ok (.isub, 1) := by decide +kernel
theorem dX11_stretch_48 : decode cX11_stretch 48 = .ok (.invokevirtual 185, 3) := by decide +kernel
theorem dX11_stretch_51 : decode cX11_stretch 51 = .ok (.ireturn, 1) := by decide +kernel
theorem dX11_lawful_0 : decode cX11_lawful 0 = .ok (.aload_n 0, 1) := by decide +kernel
theorem dX11_lawful_1 : decode cX11_lawful 1 = .ok (.getfield 28, 3) := by decide +kernel
theorem dX11_lawful_4 : decode cX11_lawful 4 = .ok (.iload_n 1, 1) := by decide +kernel
theorem dX11_lawful_5 : decode cX11_lawful 5 = .ok (.aload_n 0, 1) := by decide +kernel
theorem dX11_lawful_6 : decode cX11_lawful 6 = .ok (.getfield 74, 3) := by decide +kernel
theorem dX11_lawful_9 : decode cX11_lawful 9 = .ok (.invokevirtual 189, 3) := by decide +kernel
theorem dX11_lawful_12 : decode cX11_lawful 12 = .ok (.ifCond .ne 5, 3) := by decide +kernel
theorem dX11_lawful_15 : decode cX11_lawful 15 = .ok (.iconst (-1), 1) := by decide +kernel
theorem dX11_lawful_16 : decode cX11_lawful 16 = .ok (.ireturn, 1) := by decide +kernel
theorem dX11_lawful_17 : decode cX11_lawful 17 = .ok (.aload_n 0, 1) := by decide +kernel
theorem dX11_lawful_18 : decode cX11_lawful 18 = .ok (.getfield 28, 3) := by decide +kernel
theorem dX11_lawful_21 : decode cX11_lawful 21 = .ok (.aload_n 0, 1) := by decide +kernel
theorem dX11_lawful_22 : decode cX11_lawful 22 = .ok (.getfield 74, 3) := by decide +kernel
theorem dX11_lawful_25 : decode cX11_lawful 25 = .ok (.invokevirtual 193, 3) := by decide +kernel
theorem dX11_lawful_28 : decode cX11_lawful 28 = .ok (.ifCond .eq 7, 3) := by decide +kernel
theorem dX11_lawful_31 : decode cX11_lawful 31 = .ok (.iconst 1, 1) := by decide +kernel
theorem dX11_lawful_32 : decode cX11_lawful 32 = .ok (.goto 4, 3) := by decide +kernel
theorem dX11_lawful_35 : decode cX11_lawful 35 = .ok (.iconst 0, 1) := by decide +kernel
theorem dX11_lawful_36 : decode cX11_lawful 36 = .ok (.ireturn, 1) := by decide +kernel
theorem dX11_worth_0 : decode cX11_worth 0 = .ok (.aload_n 0, 1) := by decide +kernel
theorem dX11_worth_1 : decode cX11_worth 1 = .ok (.iload_n 2, 1) := by decide +kernel
theorem dX11_worth_2 : decode cX11_worth 2 = .ok (.invokevirtual 147, 3) := by decide +kernel
theorem dX11_worth_5 : decode cX11_worth 5 = .ok (.ifCond .eq 26, 3) := by decide +kernel
theorem dX11_worth_8 : decode cX11_worth 8 = .ok (.aload_n 0, 1) := by decide +kernel
theorem dX11_worth_9 : decode cX11_worth 9 = .ok (.iload_n 3, 1) := by decide +kernel
theorem dX11_worth_10 : decode cX11_worth 10 = .ok (.invokevirtual 176, 3) := by decide +kernel
theorem dX11_worth_13 : decode cX11_worth 13 = .ok (.ifCond .eq 18, 3) := by decide +kernel
theorem dX11_worth_16 : decode cX11_worth 16 = .ok (.aload_n 0, 1) := by decide +kernel
theorem dX11_worth_17 : decode cX11_worth 17 = .ok (.getfield 28, 3) := by decide +kernel
theorem dX11_worth_20 : decode cX11_worth 20 = .ok (.iload_n 1, 1) := by decide +kernel
theorem dX11_worth_21 : decode cX11_worth 21 = .ok (.aload_n 0, 1) := by decide +kernel
theorem dX11_worth_22 : decode cX11_worth 22 = .ok (.getfield 74, 3) := by decide +kernel
theorem dX11_worth_25 : decode cX11_worth 25 = .ok (.invokevirtual 189, 3) := by decide +kernel
theorem dX11_worth_28 : decode cX11_worth 28 = .ok (.ifCond .ne 5, 3) := by decide +kernel
theorem dX11_worth_31 : decode cX11_worth 31 = .ok (.iconst (-1), 1) := by decide +kernel
theorem dX11_worth_32 : decode cX11_worth 32 = .ok (.ireturn, 1) := by decide +kernel
theorem dX11_worth_33 : decode cX11_worth 33 = .ok (.aload_n 0, 1) := by decide +kernel
theorem dX11_worth_34 : decode cX11_worth 34 = .ok (.getfield 28, 3) := by decide +kernel
theorem dX11_worth_37 : decode cX11_worth 37 = .ok (.aload_n 0, 1) := by decide +kernel
theorem dX11_worth_38 : decode cX11_worth 38 = .ok (.getfield 74, 3) := by decide +kernel
theorem dX11_worth_41 : decode cX11_worth 41 = .ok (.iload_n 2, 1) := by decide +kernel
theorem dX11_worth_42 : decode cX11_worth 42 = .ok (.iload_n 3, 1) := by decide +kernel
theorem dX11_worth_43 : decode cX11_worth 43 = .ok (.invokevirtual 197, 3) := by decide +kernel
theorem dX11_worth_46 : decode cX11_worth 46 = .ok (.ireturn, 1) := by decide +kernel
theorem dX11_plans_0 : decode cX11_plans 0 = .ok (.aload_n 0, 1) := by decide +kernel
theorem dX11_plans_1 : decode cX11_plans 1 = .ok (.getfield 28, 3) := by decide +kernel
theorem dX11_plans_4 : decode cX11_plans 4 = .ok (.getfield 201, 3) := by decide +kernel
theorem dX11_plans_7 : decode cX11_plans 7 = .ok (.ireturn, 1) := by decide +kernel
theorem dX11_sit_0 : decode cX11_sit 0 = .ok (.aload_n 0, 1) := by decide +kernel
theorem dX11_sit_1 : decode cX11_sit 1 = .ok (.iload_n 1, 1) := by decide +kernel
theorem dX11_sit_2 : decode cX11_sit 2 = .ok (.invokevirtual 147, 3) := by decide +kernel
theorem dX11_sit_5 : decode cX11_sit 5 = .ok (.ifCond .eq 27, 3) := by decide +kernel
theorem dX11_sit_8 : decode cX11_sit 8 = .ok (.aload_n 0, 1) := by decide +kernel
theorem dX11_sit_9 : decode cX11_sit 9 = .ok (.iload_n 2, 1) := by decide +kernel
theorem dX11_sit_10 : decode cX11_sit 10 = .ok (.invokevirtual 204, 3) := by decide +kernel
theorem dX11_sit_13 : decode cX11_sit 13 = .ok (.ifCond .eq 19, 3) := by decide +kernel
theorem dX11_sit_16 : decode cX11_sit 16 = .ok (.aload_n 0, 1) := by decide +kernel
theorem dX11_sit_17 : decode cX11_sit 17 = .ok (.getfield 48, 3) := by decide +kernel
theorem dX11_sit_20 : decode cX11_sit 20 = .ok (.getfield 167, 3) := by decide +kernel
theorem dX11_sit_23 : decode cX11_sit 23 = .ok (.getfield 170, 3) := by decide +kernel
theorem dX11_sit_26 : decode cX11_sit 26 = .ok (.iload_n 1, 1) := by decide +kernel
theorem dX11_sit_27 : decode cX11_sit 27 = .ok (.iaload, 1) := by decide +kernel
theorem dX11_sit_28 : decode cX11_sit 28 = .ok (.iload_n 2, 1) := by decide +kernel
theorem dX11_sit_29 : decode cX11_sit 29 = .ok (.if_icmp .ne 6, 3) := by decide +kernel
theorem dX11_sit_32 : decode cX11_sit 32 = .ok (.bipush (-2), 2) := by decide +kernel
theorem dX11_sit_34 : decode cX11_sit 34 = .ok (.ireturn, 1) := by decide +kernel
theorem dX11_sit_35 : decode cX11_sit 35 = .ok (.aload_n 0, 1) := by decide +kernel
theorem dX11_sit_36 : decode cX11_sit 36 = .ok (.invokevirtual 207, 3) := by decide +kernel
theorem dX11_sit_39 : decode cX11_sit 39 = .ok (.aload_n 0, 1) := by decide +kernel
theorem dX11_sit_40 : decode cX11_sit 40 = .ok (.getfield 48, 3) := by decide +kernel
theorem dX11_sit_43 : decode cX11_sit 43 = .ok (.getfield 167, 3) := by decide +kernel
theorem dX11_sit_46 : decode cX11_sit 46 = .ok (.iload_n 1, 1) := by decide +kernel
theorem dX11_sit_47 : decode cX11_sit 47 = .ok (.iload_n 2, 1) := by decide +kernel
theorem dX11_sit_48 : decode cX11_sit 48 = .ok (.invokevirtual 210, 3) := by decide +kernel
theorem dX11_sit_51 : decode cX11_sit 51 = .ok (.ireturn, 1) := by decide +kernel
theorem dX11_drive_0 : decode cX11_drive 0 = .ok (.aload_n 0, 1) := by decide +kernel
theorem dX11_drive_1 : decode cX11_drive 1 = .ok (.getfield 48, 3) := by decide +kernel
theorem dX11_drive_4 : decode cX11_drive 4 = .ok (.getfield 167, 3) := by decide +kernel
theorem dX11_drive_7 : decode cX11_drive 7 = .ok (.aload_n 0, 1) := by decide +kernel
theorem dX11_drive_8 : decode cX11_drive 8 = .ok (.getfield 28, 3) := by decide +kernel
theorem dX11_drive_11 : decode cX11_drive 11 = .ok (.invokevirtual 213, 3) := by decide +kernel
theorem dX11_drive_14 : decode cX11_drive 14 = .ok (.ifCond .ne 5, 3) := by decide +kernel
theorem dX11_drive_17 : decode cX11_drive 17 = .ok (.iconst (-1), 1) := by decide +kernel
theorem dX11_drive_18 : decode cX11_drive 18 = .ok (.ireturn, 1) := by decide +kernel
theorem dX11_drive_19 : decode cX11_drive 19 = .ok (.aload_n 0, 1) := by decide +kernel
theorem dX11_drive_20 : decode cX11_drive 20 = .ok (.invokevirtual 207, 3) := by decide +kernel
theorem dX11_drive_23 : decode cX11_drive 23 = .ok (.aload_n 0, 1) := by decide +kernel
theorem dX11_drive_24 : decode cX11_drive 24 = .ok (.getfield 48, 3) := by decide +kernel
theorem dX11_drive_27 : decode cX11_drive 27 = .ok (.getfield 167, 3) := by decide +kernel
theorem dX11_drive_30 : decode cX11_drive 30 = .ok (.aload_n 0, 1) := by decide +kernel
theorem dX11_drive_31 : decode cX11_drive 31 = .ok (.getfield 28, 3) := by decide +kernel
theorem dX11_drive_34 : decode cX11_drive 34 = .ok (.invokevirtual 217, 3) := by decide +kernel
theorem dX11_drive_37 : decode cX11_drive 37 = .ok (.aload_n 0, 1) := by decide +kernel
theorem dX11_drive_38 : decode cX11_drive 38 = .ok (.getfield 48, 3) := by decide +kernel
theorem dX11_drive_41 : decode cX11_drive 41 = .ok (.getfield 167, 3) := by decide +kernel
theorem dX11_drive_44 : decode cX11_drive 44 = .ok (.getfield 221, 3) := by decide +kernel
theorem dX11_drive_47 : decode cX11_drive 47 = .ok (.ireturn, 1) := by decide +kernel
theorem dX11_undo_0 : decode cX11_undo 0 = .ok (.aload_n 0, 1) := by decide +kernel
theorem dX11_undo_1 : decode cX11_undo 1 = .ok (.getfield 224, 3) := by decide +kernel
theorem dX11_undo_4 : decode cX11_undo 4 = .ok (.ifCond .gt 5, 3) := by decide +kernel
theorem dX11_undo_7 : decode cX11_undo 7 = .ok (.iconst 0, 1) := by decide +kernel
theorem dX11_undo_8 : decode cX11_undo 8 = .ok (.ireturn, 1) := by decide +kernel
theorem dX11_undo_9 : decode cX11_undo 9 = .ok (.aload_n 0, 1) := by decide +kernel
theorem dX11_undo_10 : decode cX11_undo 10 = .ok (.dup, 1) := by decide +kernel
theorem dX11_undo_11 : decode cX11_undo 11 = .ok (.getfield 224, 3) := by decide +kernel
theorem dX11_undo_14 : decode cX11_undo 14 = .ok (.iconst 1, 1) := by decide +kernel
theorem dX11_undo_15 : decode cX11_undo 15 = .ok (.isub, 1) := by decide +kernel
theorem dX11_undo_16 : decode cX11_undo 16 = .ok (.putfield 224, 3) := by decide +kernel
theorem dX11_undo_19 : decode cX11_undo 19 = .ok (.aload_n 0, 1) := by decide +kernel
theorem dX11_undo_20 : decode cX11_undo 20 = .ok (.aload_n 0, 1) := by decide +kernel
theorem dX11_undo_21 : decode cX11_undo 21 = .ok (.getfield 227, 3) := by decide +kernel
theorem dX11_undo_24 : decode cX11_undo 24 = .ok (.bipush 16, 2) := by decide +kernel
theorem dX11_undo_26 : decode cX11_undo 26 = .ok (.iadd, 1) := by decide +kernel
theorem dX11_undo_27 : decode cX11_undo 27 = .ok (.iconst 1, 1) := by decide +kernel
theorem dX11_undo_28 : decode cX11_undo 28 = .ok (.isub, 1) := by decide +kernel
theorem dX11_undo_29 : decode cX11_undo 29 = .ok (.bipush 16, 2) := by decide +kernel
theorem dX11_undo_31 : decode cX11_undo 31 = .ok (.irem, 1) := by decide +kernel
theorem dX11_undo_32 : decode cX11_undo 32 = .ok (.putfield 227, 3) := by decide +kernel
theorem dX11_undo_35 : decode cX11_undo 35 = .ok (.aload_n 0, 1) := by decide +kernel
theorem dX11_undo_36 : decode cX11_undo 36 = .ok (.getfield 48, 3) := by decide +kernel
theorem dX11_undo_39 : decode cX11_undo 39 = .ok (.getfield 167, 3) := by decide +kernel
theorem dX11_undo_42 : decode cX11_undo 42 = .ok (.aload_n 0, 1) := by decide +kernel
theorem dX11_undo_43 : decode cX11_undo 43 = .ok (.getfield 58, 3) := by decide +kernel
theorem dX11_undo_46 : decode cX11_undo 46 = .ok (.aload_n 0, 1) := by decide +kernel
theorem dX11_undo_47 : decode cX11_undo 47 = .ok (.getfield 227, 3) := by decide +kernel
theorem dX11_undo_50 : decode cX11_undo 50 = .ok (.aaload, 1) := by decide +kernel
theorem dX11_undo_51 : decode cX11_undo 51 = .ok (.invokevirtual 230, 3) := by decide +kernel
theorem dX11_undo_54 : decode cX11_undo 54 = .ok (.iconst 1, 1) := by decide +kernel
theorem dX11_undo_55 : decode cX11_undo 55 = .ok (.ireturn, 1) := by decide +kernel
theorem dX11_judged_0 : decode cX11_judged 0 = .ok (.iload_n 1, 1) := by decide +kernel
theorem dX11_judged_1 : decode cX11_judged 1 = .ok (.iconst (-1), 1) := by decide +kernel
theorem dX11_judged_2 : decode cX11_judged 2 = .ok (.if_icmp .eq 14, 3) := by decide +kernel
theorem dX11_judged_5 : decode cX11_judged 5 = .ok (.aload_n 0, 1) := by decide +kernel
theorem dX11_judged_6 : decode cX11_judged 6 = .ok (.iload_n 1, 1) := by decide +kernel
theorem dX11_judged_7 : decode cX11_judged 7 = .ok (.invokevirtual 147, 3) := by decide +kernel
theorem dX11_judged_10 : decode cX11_judged 10 = .ok (.ifCond .ne 6, 3) := by decide +kernel
theorem dX11_judged_13 : decode cX11_judged 13 = .ok (.ldc 234, 2) := by decide +kernel
theorem dX11_judged_15 : decode cX11_judged 15 = .ok (.ireturn, 1) := by decide +kernel
theorem dX11_judged_16 : decode cX11_judged 16 = .ok (.aload_n 0, 1) := by decide +kernel
theorem dX11_judged_17 : decode cX11_judged 17 = .ok (.invokevirtual 235, 3) := by decide +kernel
theorem dX11_judged_20 : decode cX11_judged 20 = .ok (.istore_n 2, 1) := by decide +kernel
theorem dX11_judged_21 : decode cX11_judged 21 = .ok (.iload_n 1, 1) := by decide +kernel
theorem dX11_judged_22 : decode cX11_judged 22 = .ok (.iconst (-1), 1) := by decide +kernel
theorem dX11_judged_23 : decode cX11_judged 23 = .ok (.if_icmp .ne 7, 3) := by decide +kernel
theorem dX11_judged_26 : decode cX11_judged 26 = .ok (.iload_n 2, 1) := by decide +kernel
theorem dX11_judged_27 : decode cX11_judged 27 = .ok (.goto 12, 3) := by decide +kernel
theorem dX11_judged_30 : decode cX11_judged 30 = .ok (.aload_n 0, 1) := by decide +kernel
theorem dX11_judged_31 : decode cX11_judged 31 = .ok (.getfield 63, 3) := by decide +kernel
theorem dX11_judged_34 : decode cX11_judged 34 = .ok (.getfield 173, 3) := by decide +kernel
theorem dX11_judged_37 : decode cX11_judged 37 = .ok (.iload_n 1, 1) := by decide +kernel
theorem dX11_judged_38 : decode cX11_judged 38 = .ok (.iaload, 1) := by decide +kernel
theorem dX11_judged_39 : decode cX11_judged 39 = .ok (.ireturn, 1) := by decide +kernel
theorem dX11_evenest_0 : decode cX11_evenest 0 = .ok (.iload_n 1, 1) := by decide +kernel
theorem dX11_evenest_1 : decode cX11_evenest 1 = .ok (.ifCond .lt 30, 3) := by decide +kernel
theorem dX11_evenest_4 : decode cX11_evenest 4 = .ok (.iload_n 1, 1) := by decide +kernel
theorem dX11_evenest_5 : decode cX11_evenest 5 = .ok (.bipush 12, 2) := by decide +kernel
theorem dX11_evenest_7 : decode cX11_evenest 7 = .ok (.if_icmp .gt 24, 3) := by decide +kernel
theorem dX11_evenest_10 : decode cX11_evenest 10 = .ok (.iload_n 2, 1) := by decide +kernel
theorem dX11_evenest_11 : decode cX11_evenest 11 = .ok (.ifCond .lt 20, 3) := by decide +kernel
theorem dX11_evenest_14 : decode cX11_evenest 14 = .ok (.iload_n 2, 1) := by decide +kernel
theorem dX11_evenest_15 : decode cX11_evenest 15 = .ok (.iconst 2, 1) := by decide +kernel
theorem dX11_evenest_16 : decode cX11_evenest 16 = .ok (.aload_n 0, 1) := by decide +kernel
theorem dX11_evenest_17 : decode cX11_evenest 17 = .ok (.getfield 28, 3) := by decide +kernel
theorem dX11_evenest_20 : decode cX11_evenest 20 = .ok (.getfield 239, 3) := by decide +kernel
theorem dX11_evenest_23 : decode cX11_evenest 23 = .ok (.iadd, 1) := by decide +kernel
theorem dX11_evenest_24 : decode cX11_evenest 24 = .ok (.if_icmp .ge 7, 3) := by decide +kernel
theorem dX11_evenest_27 : decode cX11_evenest 27 = .ok (.iconst 1, 1) := by decide +kernel
theorem dX11_evenest_28 : decode cX11_evenest 28 = .ok (.goto 4, 3) := by decide +kernel
theorem dX11_evenest_31 : decode cX11_evenest 31 = .ok (.iconst 0, 1) := by decide +kernel
theorem dX11_evenest_32 : decode cX11_evenest 32 = .ok (.istore_n 3, 1) := by decide +kernel
theorem dX11_evenest_33 : decode cX11_evenest 33 = .ok (.iload_n 3, 1) := by decide +kernel
theorem dX11_evenest_34 : decode cX11_evenest 34 = .ok (.ifCond .eq 13, 3) := by decide +kernel
theorem dX11_evenest_37 : decode cX11_evenest 37 = .ok (.aload_n 0, 1) := by decide +kernel
theorem dX11_evenest_38 : decode cX11_evenest 38 = .ok (.getfield 28, 3) := by decide +kernel
theorem dX11_evenest_41 : decode cX11_evenest 41 = .ok (.getfield 242, 3) := by decide +kernel
theorem dX11_evenest_44 : decode cX11_evenest 44 = .ok (.ifCond .ne 5, 3) := by decide +kernel
theorem dX11_evenest_47 : decode cX11_evenest 47 = .ok (.iconst (-1), 1) := by decide +kernel
theorem dX11_evenest_48 : decode cX11_evenest 48 = .ok (.ireturn, 1) := by decide +kernel
theorem dX11_evenest_49 : decode cX11_evenest 49 = .ok (.aload_n 0, 1) := by decide +kernel
theorem dX11_evenest_50 : decode cX11_evenest 50 = .ok (.getfield 83, 3) := by decide +kernel
theorem dX11_evenest_53 : decode cX11_evenest 53 = .ok (.invokevirtual 245, 3) := by decide +kernel
theorem dX11_evenest_56 : decode cX11_evenest 56 = .ok (.aload_n 0, 1) := by decide +kernel
theorem dX11_evenest_57 : decode cX11_evenest 57 = .ok (.getfield 83, 3) := by decide +kernel
theorem dX11_evenest_60 : decode cX11_evenest 60 = .ok (.iload_n 1, 1) := by decide +kernel
theorem dX11_evenest_61 : decode cX11_evenest 61 = .ok (.iload_n 2, 1) := by decide +kernel
theorem dX11_evenest_62 : decode cX11_evenest 62 = .ok (.invokevirtual 248, 3) := by decide +kernel
theorem dX11_evenest_65 : decode cX11_evenest 65 = .ok (.ireturn, 1) := by decide +kernel
theorem dX11_most_0 : decode cX11_most 0 = .ok (.iload_n 1, 1) := by decide +kernel
theorem dX11_most_1 : decode cX11_most 1 = .ok (.iconst (-1), 1) := by decide +kernel
theorem dX11_most_2 : decode cX11_most 2 = .ok (.if_icmp .eq 11, 3) := by decide +kernel
theorem dX11_most_5 : decode cX11_most 5 = .ok (.aload_n 0, 1) := by decide +kernel
theorem dX11_most_6 : decode cX11_most 6 = .ok (.iload_n 1, 1) := by decide +kernel
theorem dX11_most_7 : decode cX11_most 7 = .ok (.invokevirtual 176, 3) := by decide +kernel
theorem dX11_most_10 : decode cX11_most 10 = .ok (.ifCond .eq 7, 3) := by decide +kernel
theorem dX11_most_13 : decode cX11_most 13 = .ok (.iconst 1, 1) := by decide +kernel
theorem dX11_most_14 : decode cX11_most 14 = .ok (.goto 4, 3) := by decide +kernel
theorem dX11_most_17 : decode cX11_most 17 = .ok (.iconst 0, 1) := by decide +kernel
theorem dX11_most_18 : decode cX11_most 18 = .ok (.istore_n 2, 1) := by decide +kernel
theorem dX11_most_19 : decode cX11_most 19 = .ok (.iload_n 2, 1) := by decide +kernel
theorem dX11_most_20 : decode cX11_most 20 = .ok (.ifCond .eq 23, 3) := by decide +kernel
theorem dX11_most_23 : decode cX11_most 23 = .ok (.aload_n 0, 1) := by decide +kernel
theorem dX11_most_24 : decode cX11_most 24 = .ok (.getfield 28, 3) := by decide +kernel
theorem dX11_most_27 : decode cX11_most 27 = .ok (.getfield 242, 3) := by decide +kernel
theorem dX11_most_30 : decode cX11_most 30 = .ok (.ifCond .eq 13, 3) := by decide +kernel
theorem dX11_most_33 : decode cX11_most 33 = .ok (.aload_n 0, 1) := by decide +kernel
theorem dX11_most_34 : decode cX11_most 34 = .ok (.getfield 28, 3) := by decide +kernel
theorem dX11_most_37 : decode cX11_most 37 = .ok (.invokevirtual 251, 3) := by decide +kernel
theorem dX11_most_40 : decode cX11_most 40 = .ok (.ifCond .ne 13, 3) := by decide +kernel
theorem dX11_most_43 : decode cX11_most 43 = .ok (.new 151, 3) := by decide +kernel
theorem dX11_most_46 : decode cX11_most 46 = .ok (.dup, 1) := by decide +kernel
theorem dX11_most_47 : decode cX11_most 47 = .ok (.ldc 255, 2) := by decide +kernel
theorem dX11_most_49 : decode cX11_most 49 = .ok (.invokespecial 155, 3) := by decide +kernel
theorem dX11_most_52 : decode cX11_most 52 = .ok (.athrow, 1) := by decide +kernel
theorem dX11_most_53 : decode cX11_most 53 = .ok (.aload_n 0, 1) := by decide +kernel
theorem dX11_most_54 : decode cX11_most 54 = .ok (.getfield 83, 3) := by decide +kernel
theorem dX11_most_57 : decode cX11_most 57 = .ok (.invokevirtual 245, 3) := by decide +kernel
theorem dX11_most_60 : decode cX11_most 60 = .ok (.aload_n 0, 1) := by decide +kernel
theorem dX11_most_61 : decode cX11_most 61 = .ok (.getfield 83, 3) := by decide +kernel
theorem dX11_most_64 : decode cX11_most 64 = .ok (.iload_n 1, 1) := by decide +kernel
theorem dX11_most_65 : decode cX11_most 65 = .ok (.invokevirtual 257, 3) := by decide +kernel
theorem dX11_most_68 : decode cX11_most 68 = .ok (.ireturn, 1) := by decide +kernel
theorem dX11_worst_0 : decode cX11_worst 0 = .ok (.aload_n 0, 1) := by decide +kernel
theorem dX11_worst_1 : decode cX11_worst 1 = .ok (.getfield 28, 3) := by decide +kernel
theorem dX11_worst_4 : decode cX11_worst 4 = .ok (.getfield 242, 3) := by decide +kernel
theorem dX11_worst_7 : decode cX11_worst 7 = .ok (.ifCond .eq 13, 3) := by decide +kernel
theorem dX11_worst_10 : decode cX11_worst 10 = .ok (.aload_n 0, 1) := by decide +kernel
theorem dX11_worst_11 : decode cX11_worst 11 = .ok (.getfield 28, 3) := by decide +kernel
theorem dX11_worst_14 : decode cX11_worst 14 = .ok (.invokevirtual 251, 3) := by decide +kernel
theorem dX11_worst_17 : decode cX11_worst 17 = .ok (.ifCond .ne 13, 3) := by decide +kernel
theorem dX11_worst_20 : decode cX11_worst 20 = .ok (.new 151, 3) := by decide +kernel
theorem dX11_worst_23 : decode cX11_worst 23 = .ok (.dup, 1) := by decide +kernel
theorem dX11_worst_24 : decode cX11_worst 24 = .ok (.ldc 255, 2) := by decide +kernel
theorem dX11_worst_26 : decode cX11_worst 26 = .ok (.invokespecial 155, 3) := by decide +kernel
theorem dX11_worst_29 : decode cX11_worst 29 = .ok (.athrow, 1) := by decide +kernel
theorem dX11_worst_30 : decode cX11_worst 30 = .ok (.aload_n 0, 1) := by decide +kernel
theorem dX11_worst_31 : decode cX11_worst 31 = .ok (.getfield 83, 3) := by decide +kernel
theorem dX11_worst_34 : decode cX11_worst 34 = .ok (.invokevirtual 245, 3) := by decide +kernel
theorem dX11_worst_37 : decode cX11_worst 37 = .ok (.aload_n 0, 1) := by decide +kernel
theorem dX11_worst_38 : decode cX11_worst 38 = .ok (.getfield 83, 3) := by decide +kernel
theorem dX11_worst_41 : decode cX11_worst 41 = .ok (.invokevirtual 260, 3) := by decide +kernel
theorem dX11_worst_44 : decode cX11_worst 44 = .ok (.ireturn, 1) := by decide +kernel
theorem dX11_after_0 : decode cX11_after 0 = .ok (.aload_n 0, 1) := by decide +kernel
theorem dX11_after_1 : decode cX11_after 1 = .ok (.getfield 28, 3) := by decide +kernel
theorem dX11_after_4 : decode cX11_after 4 = .ok (.getfield 242, 3) := by decide +kernel
theorem dX11_after_7 : decode cX11_after 7 = .ok (.ifCond .eq 13, 3) := by decide +kernel
theorem dX11_after_10 : decode cX11_after 10 = .ok (.aload_n 0, 1) := by decide +kernel
theorem dX11_after_11 : decode cX11_after 11 = .ok (.getfield 28, 3) := by decide +kernel
theorem dX11_after_14 : decode cX11_after 14 = .ok (.invokevirtual 251, 3) := by decide +kernel
theorem dX11_after_17 : decode cX11_after 17 = .ok (.ifCond .ne 5, 3) := by decide +kernel
theorem dX11_after_20 : decode cX11_after 20 = .ok (.iconst (-1), 1) := by decide +kernel
theorem dX11_after_21 : decode cX11_after 21 = .ok (.ireturn, 1) := by decide +kernel
theorem dX11_after_22 : decode cX11_after 22 = .ok (.aload_n 0, 1) := by decide +kernel
theorem dX11_after_23 : decode cX11_after 23 = .ok (.getfield 83, 3) := by decide +kernel
theorem dX11_after_26 : decode cX11_after 26 = .ok (.invokevirtual 245, 3) := by decide +kernel
theorem dX11_after_29 : decode cX11_after 29 = .ok (.aload_n 0, 1) := by decide +kernel
theorem dX11_after_30 : decode cX11_after 30 = .ok (.getfield 83, 3) := by decide +kernel
theorem dX11_after_33 : decode cX11_after 33 = .ok (.invokevirtual 263, 3) := by decide +kernel
theorem dX11_after_36 : decode cX11_after 36 = .ok (.ireturn, 1) := by decide +kernel
theorem dX11_pieces_0 : decode cX11_pieces 0 = .ok (.aload_n 0, 1) := by decide +kernel
theorem dX11_pieces_1 : decode cX11_pieces 1 = .ok (.iload_n 1, 1) := by decide +kernel
theorem dX11_pieces_2 : decode cX11_pieces 2 = .ok (.invokevirtual 176, 3) := by decide +kernel
theorem dX11_pieces_5 : decode cX11_pieces 5 = .ok (.ifCond .eq 35, 3) := by decide +kernel
theorem dX11_pieces_8 : decode cX11_pieces 8 = .ok (.aload_n 0, 1) := by decide +kernel
theorem dX11_pieces_9 : decode cX11_pieces 9 = .ok (.getfield 48, 3) := by decide +kernel
theorem dX11_pieces_12 : decode cX11_pieces 12 = .ok (.getfield 143, 3) := by decide +kernel
theorem dX11_pieces_15 : decode cX11_pieces 15 = .ok (.ifCond .eq 25, 3) := by decide +kernel
theorem dX11_pieces_18 : decode cX11_pieces 18 = .ok (.aload_n 0, 1) := by decide +kernel
theorem dX11_pieces_19 : decode cX11_pieces 19 = .ok (.getfield 90, 3) := by decide +kernel
theorem dX11_pieces_22 : decode cX11_pieces 22 = .ok (.aload_n 0, 1) := by decide +kernel
theorem dX11_pieces_23 : decode cX11_pieces 23 = .ok (.getfield 28, 3) := by decide +kernel
theorem dX11_pieces_26 : decode cX11_pieces 26 = .ok (.aload_n 0, 1) := by decide +kernel
theorem dX11_pieces_27 : decode cX11_pieces 27 = .ok (.getfield 48, 3) := by decide +kernel
theorem dX11_pieces_30 : decode cX11_pieces 30 = .ok (.getfield 134, 3) := by decide +kernel
theorem dX11_pieces_33 : decode cX11_pieces 33 = .ok (.iload_n 1, 1) := by decide +kernel
theorem dX11_pieces_34 : decode cX11_pieces 34 = .ok (.invokevirtual 266, 3) := by decide +kernel
theorem dX11_pieces_37 : decode cX11_pieces 37 = .ok (.ifCond .ne 6, 3) := by decide +kernel
theorem dX11_pieces_40 : decode cX11_pieces 40 = .ok (.bipush (-2), 2) := by decide +kernel
theorem dX11_pieces_42 : decode cX11_pieces 42 = .ok (.ireturn, 1) := by decide +kernel
theorem dX11_pieces_43 : decode cX11_pieces 43 = .ok (.iload_n 2, 1) := by decide +kernel
theorem dX11_pieces_44 : decode cX11_pieces 44 = .ok (.iconst (-1), 1) := by decide +kernel
theorem dX11_pieces_45 : decode cX11_pieces 45 = .ok (.if_icmp .ne 11, 3) := by decide +kernel
theorem dX11_pieces_48 : decode cX11_pieces 48 = .ok (.aload_n 0, 1) := by decide +kernel
theorem dX11_pieces_49 : decode cX11_pieces 49 = .ok (.getfield 90, 3) := by decide +kernel
theorem dX11_pieces_52 : decode cX11_pieces 52 = .ok (.getfield 270, 3) := by decide +kernel
theorem dX11_pieces_55 : decode cX11_pieces 55 = .ok (.ireturn, 1) := by decide +kernel
theorem dX11_pieces_56 : decode cX11_pieces 56 = .ok (.iload_n 2, 1) := by decide +kernel
theorem dX11_pieces_57 : decode cX11_pieces 57 = .ok (.ifCond .lt 16, 3) := by decide +kernel
theorem dX11_pieces_60 : decode cX11_pieces 60 = .ok (.iload_n 2, 1) := by decide +kernel
theorem dX11_pieces_61 : decode cX11_pieces 61 = .ok (.iconst 2, 1) := by decide +kernel
theorem dX11_pieces_62 : decode cX11_pieces 62 = .ok (.idiv, 1) := by decide +kernel
theorem dX11_pieces_63 : decode cX11_pieces 63 = .ok (.aload_n 0, 1) := by decide +kernel
theorem dX11_pieces_64 : decode cX11_pieces 64 = .ok (.getfield 90, 3) := by decide +kernel
theorem dX11_pieces_67 : decode cX11_pieces 67 = .ok (.getfield 270, 3) := by decide +kernel
theorem dX11_pieces_70 : decode cX11_pieces 70 = .ok (.if_icmp .lt 6, 3) := by decide +kernel
theorem dX11_pieces_73 : decode cX11_pieces 73 = .ok (.bipush (-2), 2) := by decide +kernel
theorem dX11_pieces_75 : decode cX11_pieces 75 = .ok (.ireturn, 1) := by decide +kernel
theorem dX11_pieces_76 : decode cX11_pieces 76 = .ok (.iload_n 2, 1) := by decide +kernel
theorem dX11_pieces_77 : decode cX11_pieces 77 = .ok (.iconst 2, 1) := by decide +kernel
theorem dX11_pieces_78 : decode cX11_pieces 78 = .ok (.irem, 1) := by decide +kernel
theorem dX11_pieces_79 : decode cX11_pieces 79 = .ok (.ifCond .ne 17, 3) := by decide +kernel
theorem dX11_pieces_82 : decode cX11_pieces 82 = .ok (.aload_n 0, 1) := by decide +kernel
theorem dX11_pieces_83 : decode cX11_pieces 83 = .ok (.getfield 90, 3) := by decide +kernel
theorem dX11_pieces_86 : decode cX11_pieces 86 = .ok (.getfield 273, 3) := by decide +kernel
theorem dX11_pieces_89 : decode cX11_pieces 89 = .ok (.iload_n 2, 1) := by decide +kernel
theorem dX11_pieces_90 : decode cX11_pieces 90 = .ok (.iconst 2, 1) := by decide +kernel
theorem dX11_pieces_91 : decode cX11_pieces 91 = .ok (.idiv, 1) := by decide +kernel
theorem dX11_pieces_92 : decode cX11_pieces 92 = .ok (.iaload, 1) := by decide +kernel
theorem dX11_pieces_93 : decode cX11_pieces 93 = .ok (.goto 14, 3) := by decide +kernel
theorem dX11_pieces_96 : decode cX11_pieces 96 = .ok (.aload_n 0, 1) := by decide +kernel
theorem dX11_pieces_97 : decode cX11_pieces 97 = .ok (.getfield 90, 3) := by decide +kernel
theorem dX11_pieces_100 : decode cX11_pieces 100 = .ok (.getfield 276, 3) := by decide +kernel
theorem dX11_pieces_103 : decode cX11_pieces 103 = .ok (.iload_n 2, 1) := by decide +kernel
theorem dX11_pieces_104 : decode cX11_pieces 104 = .ok (.iconst 2, 1) := by decide +kernel
theorem dX11_pieces_105 : decode cX11_pieces 105 = .ok (.idiv, 1) := by decide +kernel
theorem dX11_pieces_106 : decode cX11_pieces 106 = .ok (.iaload, 1) := by decide +kernel
theorem dX11_pieces_107 : decode cX11_pieces 107 = .ok (.ireturn, 1) := by decide +kernel
theorem dX11_toffees_0 : decode cX11_toffees 0 = .ok (.aload_n 0, 1) := by decide +kernel
theorem dX11_toffees_1 : decode cX11_toffees 1 = .ok (.iload_n 1, 1) := by decide +kernel
theorem dX11_toffees_2 : decode cX11_toffees 2 = .ok (.invokevirtual 176, 3) := by decide +kernel
theorem dX11_toffees_5 : decode cX11_toffees 5 = .ok (.ifCond .eq 20, 3) := by decide +kernel
theorem dX11_toffees_8 : decode cX11_toffees 8 = .ok (.iload_n 2, 1) := by decide +kernel
theorem dX11_toffees_9 : decode cX11_toffees 9 = .ok (.iconst (-1), 1) := by decide +kernel
theorem dX11_toffees_10 : decode cX11_toffees 10 = .ok (.if_icmp .eq 11, 3) := by decide +kernel
theorem dX11_toffees_13 : decode cX11_toffees 13 = .ok (.aload_n 0, 1) := by decide +kernel
theorem dX11_toffees_14 : decode cX11_toffees 14 = .ok (.iload_n 2, 1) := by decide +kernel
theorem dX11_toffees_15 : decode cX11_toffees 15 = .ok (.invokevirtual 204, 3) := by decide +kernel
theorem dX11_toffees_18 : decode cX11_toffees 18 = .ok (.ifCond .eq 7, 3) := by decide +kernel
theorem dX11_toffees_21 : decode cX11_toffees 21 = .ok (.iconst 1, 1) := by decide +kernel
theorem dX11_toffees_22 : decode cX11_toffees 22 = .ok (.goto 4, 3) := by decide +kernel
theorem dX11_toffees_25 : decode cX11_toffees 25 = .ok (.iconst 0, 1) := by decide +kernel
theorem dX11_toffees_26 : decode cX11_toffees 26 = .ok (.istore_n 3, 1) := by decide +kernel
theorem dX11_toffees_27 : decode cX11_toffees 27 = .ok (.iload_n 3, 1) := by decide +kernel
theorem dX11_toffees_28 : decode cX11_toffees 28 = .ok (.ifCond .eq 20, 3) := by decide +kernel
theorem dX11_toffees_31 : decode cX11_toffees 31 = .ok (.aload_n 0, 1) := by decide +kernel
theorem dX11_toffees_32 : decode cX11_toffees 32 = .ok (.getfield 28, 3) := by decide +kernel
theorem dX11_toffees_35 : decode cX11_toffees 35 = .ok (.getfield 242, 3) := by decide +kernel
theorem dX11_toffees_38 : decode cX11_toffees 38 = .ok (.aload_n 0, 1) := by decide +kernel
theorem dX11_toffees_39 : decode cX11_toffees 39 = .ok (.getfield 28, 3) := by decide +kernel
theorem dX11_toffees_42 : decode cX11_toffees 42 = .ok (.getfield 179, 3) := by decide +kernel
theorem dX11_toffees_45 : decode cX11_toffees 45 = .ok (.if_icmp .ge 6, 3) := by decide +kernel
theorem dX11_toffees_48 : decode cX11_toffees 48 = .ok (.bipush (-2), 2) := by decide +kernel
theorem dX11_toffees_50 : decode cX11_toffees 50 = .ok (.ireturn, 1) := by decide +kernel
theorem dX11_toffees_51 : decode cX11_toffees 51 = .ok (.aload_n 0, 1) := by decide +kernel
theorem dX11_toffees_52 : decode cX11_toffees 52 = .ok (.getfield 97, 3) := by decide +kernel
theorem dX11_toffees_55 : decode cX11_toffees 55 = .ok (.aload_n 0, 1) := by decide +kernel
theorem dX11_toffees_56 : decode cX11_toffees 56 = .ok (.getfield 28, 3) := by decide +kernel
theorem dX11_toffees_59 : decode cX11_toffees 59 = .ok (.iload_n 1, 1) := by decide +kernel
theorem dX11_toffees_60 : decode cX11_toffees 60 = .ok (.invokevirtual 278, 3) := by decide +kernel
theorem dX11_toffees_63 : decode cX11_toffees 63 = .ok (.iload_n 2, 1) := by decide +kernel
theorem dX11_toffees_64 : decode cX11_toffees 64 = .ok (.iconst (-1), 1) := by decide +kernel
theorem dX11_toffees_65 : decode cX11_toffees 65 = .ok (.if_icmp .ne 13, 3) := by decide +kernel
theorem dX11_toffees_68 : decode cX11_toffees 68 = .ok (.aload_n 0, 1) := by decide +kernel
theorem dX11_toffees_69 : decode cX11_toffees 69 = .ok (.getfield 97, 3) := by decide +kernel
theorem dX11_toffees_72 : decode cX11_toffees 72 = .ok (.getfield 282, 3) := by decide +kernel
theorem dX11_toffees_75 : decode cX11_toffees 75 = .ok (.goto 12, 3) := by decide +kernel
theorem dX11_toffees_78 : decode cX11_toffees 78 = .ok (.aload_n 0, 1) := by decide +kernel
theorem dX11_toffees_79 : decode cX11_toffees 79 = .ok (.getfield 97, 3) := by decide +kernel
theorem dX11_toffees_82 : decode cX11_toffees 82 = .ok (.getfield 284, 3) := by decide +kernel
theorem dX11_toffees_85 : decode cX11_toffees 85 = .ok (.iload_n 2, 1) := by decide +kernel
theorem dX11_toffees_86 : decode cX11_toffees 86 = .ok (.iaload, 1) := by decide +kernel
theorem dX11_toffees_87 : decode cX11_toffees 87 = .ok (.ireturn, 1) := by decide +kernel
theorem dX11_door_0 : decode cX11_door 0 = .ok (.aload_n 0, 1) := by decide +kernel
theorem dX11_door_1 : decode cX11_door 1 = .ok (.iload_n 1, 1) := by decide +kernel
theorem dX11_door_2 : decode cX11_door 2 = .ok (.invokevirtual 176, 3) := by decide +kernel
theorem dX11_door_5 : decode cX11_door 5 = .ok (.ifCond .eq 23, 3) := by decide +kernel
theorem dX11_door_8 : decode cX11_door 8 = .ok (.aload_n 0, 1) := by decide +kernel
theorem dX11_door_9 : decode cX11_door 9 = .ok (.iload_n 2, 1) := by decide +kernel
theorem dX11_door_10 : decode cX11_door 10 = .ok (.invokevirtual 147, 3) := by decide +kernel
theorem dX11_door_13 : decode cX11_door 13 = .ok (.ifCond .eq 15, 3) := by decide +kernel
theorem dX11_door_16 : decode cX11_door 16 = .ok (.aload_n 0, 1) := by decide +kernel
theorem dX11_door_17 : decode cX11_door 17 = .ok (.iload_n 3, 1) := by decide +kernel
theorem dX11_door_18 : decode cX11_door 18 = .ok (.invokevirtual 204, 3) := by decide +kernel
theorem dX11_door_21 : decode cX11_door 21 = .ok (.ifCond .eq 7, 3) := by decide +kernel
theorem dX11_door_24 : decode cX11_door 24 = .ok (.iconst 1, 1) := by decide +kernel
theorem dX11_door_25 : decode cX11_door 25 = .ok (.goto 4, 3) := by decide +kernel
theorem dX11_door_28 : decode cX11_door 28 = .ok (.iconst 0, 1) := by decide +kernel
theorem dX11_door_29 : decode cX11_door 29 = .ok (.istore 5, 2) := by decide +kernel
theorem dX11_door_31 : decode cX11_door 31 = .ok (.iload 5, 2) := by decide +kernel
theorem dX11_door_33 : decode cX11_door 33 = .ok (.ifCond .eq 14, 3) := by decide +kernel
theorem dX11_door_36 : decode cX11_door 36 = .ok (.iload 4, 2) := by decide +kernel
theorem dX11_door_38 : decode cX11_door 38 = .ok (.ifCond .lt 9, 3) := by decide +kernel
theorem dX11_door_41 : decode cX11_door 41 = .ok (.iload 4, 2) := by decide +kernel
theorem dX11_door_43 : decode cX11_door 43 = .ok (.iconst 1, 1) := by decide +kernel
theorem dX11_door_44 : decode cX11_door 44 = .ok (.if_icmp .le 7, 3) := by decide +kernel
theorem dX11_door_47 : decode cX11_door 47 = .ok (.ldc2_w 287, 3) := by decide +kernel
theorem dX11_door_50 : decode cX11_door 50 = .ok (.lreturn, 1) := by decide +kernel
theorem dX11_door_51 : decode cX11_door 51 = .ok (.aload_n 0, 1) := by decide +kernel
theorem dX11_door_52 : decode cX11_door 52 = .ok (.getfield 104, 3) := by decide +kernel
theorem dX11_door_55 : decode cX11_door 55 = .ok (.aload_n 0, 1) := by decide +kernel
theorem dX11_door_56 : decode cX11_door 56 = .ok (.getfield 28, 3) := by decide +kernel
theorem dX11_door_59 : decode cX11_door 59 = .ok (.iload_n 1, 1) := by decide +kernel
theorem dX11_door_60 : decode cX11_door 60 = .ok (.iload_n 2, 1) := by decide +kernel
theorem dX11_door_61 : decode cX11_door 61 = .ok (.iload_n 3, 1) := by decide +kernel
theorem dX11_door_62 : decode cX11_door 62 = .ok (.invokevirtual 289, 3) := by decide +kernel
theorem dX11_door_65 : decode cX11_door 65 = .ok (.iload 4, 2) := by decide +kernel
theorem dX11_door_67 : decode cX11_door 67 = .ok (.ifCond .ne 13, 3) := by decide +kernel
theorem dX11_door_70 : decode cX11_door 70 = .ok (.aload_n 0, 1) := by decide +kernel
theorem dX11_door_71 : decode cX11_door 71 = .ok (.getfield 104, 3) := by decide +kernel
theorem dX11_door_74 : decode cX11_door 74 = .ok (.getfield 293, 3) := by decide +kernel
theorem dX11_door_77 : decode cX11_door 77 = .ok (.goto 10, 3) := by decide +kernel
theorem dX11_door_80 : decode cX11_door 80 = .ok (.aload_n 0, 1) := by decide +kernel
theorem dX11_door_81 : decode cX11_door 81 = .ok (.getfield 104, 3) := by decide +kernel
theorem dX11_door_84 : decode cX11_door 84 = .ok (.getfield 297, 3) := by decide +kernel
theorem dX11_door_87 : decode cX11_door 87 = .ok (.lreturn, 1) := by decide +kernel
theorem dX11_called_0 : decode cX11_called 0 = .ok (.iload_n 1, 1) := by decide +kernel
theorem dX11_called_1 : decode cX11_called 1 = .ok (.ifCond .lt 33, 3) := by decide +kernel
theorem dX11_called_4 : decode cX11_called 4 = .ok (.iload_n 1, 1) := by decide +kernel
theorem dX11_called_5 : decode cX11_called 5 = .ok (.aload_n 0, 1) := by decide +kernel
theorem dX11_called_6 : decode cX11_called 6 = .ok (.getfield 28, 3) := by decide +kernel
theorem dX11_called_9 : decode cX11_called 9 = .ok (.getfield 300, 3) := by decide +kernel
theorem dX11_called_12 : decode cX11_called 12 = .ok (.if_icmp .ge 22, 3) := by decide +kernel
theorem dX11_called_15 : decode cX11_called 15 = .ok (.iload_n 2, 1) := by decide +kernel
theorem dX11_called_16 : decode cX11_called 16 = .ok (.ifCond .lt 18, 3) := by decide +kernel
theorem dX11_called_19 : decode cX11_called 19 = .ok (.iload_n 2, 1) := by decide +kernel
theorem dX11_called_20 : decode cX11_called 20 = .ok (.aload_n 0, 1) := by decide +kernel
theorem dX11_called_21 : decode cX11_called 21 = .ok (.getfield 28, 3) := by decide +kernel
theorem dX11_called_24 : decode cX11_called 24 = .ok (.getfield 239, 3) := by decide +kernel
theorem dX11_called_27 : decode cX11_called 27 = .ok (.if_icmp .gt 7, 3) := by decide +kernel
theorem dX11_called_30 : decode cX11_called 30 = .ok (.iconst 1, 1) := by decide +kernel
theorem dX11_called_31 : decode cX11_called 31 = .ok (.goto 4, 3) := by decide +kernel
theorem dX11_called_34 : decode cX11_called 34 = .ok (.iconst 0, 1) := by decide +kernel
theorem dX11_called_35 : decode cX11_called 35 = .ok (.istore_n 3, 1) := by decide +kernel
theorem dX11_called_36 : decode cX11_called 36 = .ok (.iload_n 3, 1) := by decide +kernel
theorem dX11_called_37 : decode cX11_called 37 = .ok (.ifCond .eq 21, 3) := by decide +kernel
theorem dX11_called_40 : decode cX11_called 40 = .ok (.aload_n 0, 1) := by decide +kernel
theorem dX11_called_41 : decode cX11_called 41 = .ok (.getfield 28, 3) := by decide +kernel
theorem dX11_called_44 : decode cX11_called 44 = .ok (.getfield 242, 3) := by decide +kernel
theorem dX11_called_47 : decode cX11_called 47 = .ok (.ifCond .eq 11, 3) := by decide +kernel
theorem dX11_called_50 : decode cX11_called 50 = .ok (.aload_n 0, 1) := by decide +kernel
theorem dX11_called_51 : decode cX11_called 51 = .ok (.iload_n 1, 1) := by decide +kernel
theorem dX11_called_52 : decode cX11_called 52 = .ok (.invokevirtual 303, 3) := by decide +kernel
theorem dX11_called_55 : decode cX11_called 55 = .ok (.ifCond .ne 5, 3) := by decide +kernel
theorem dX11_called_58 : decode cX11_called 58 = .ok (.iconst (-1), 1) := by decide +kernel
theorem dX11_called_59 : decode cX11_called 59 = .ok (.ireturn, 1) := by decide +kernel
theorem dX11_called_60 : decode cX11_called 60 = .ok (.iload_n 2, 1) := by decide +kernel
theorem dX11_called_61 : decode cX11_called 61 = .ok (.ifCond .ne 24, 3) := by decide +kernel
theorem dX11_called_64 : decode cX11_called 64 = .ok (.aload_n 0, 1) := by decide +kernel
theorem dX11_called_65 : decode cX11_called 65 = .ok (.getfield 63, 3) := by decide +kernel
theorem dX11_called_68 : decode cX11_called 68 = .ok (.getfield 173, 3) := by decide +kernel
theorem dX11_called_71 : decode cX11_called 71 = .ok (.iconst 0, 1) := by decide +kernel
theorem dX11_called_72 : decode cX11_called 72 = .ok (.aload_n 0, 1) := by decide +kernel
theorem dX11_called_73 : decode cX11_called 73 = .ok (.getfield 28, 3) := by decide +kernel
theorem dX11_called_76 : decode cX11_called 76 = .ok (.getfield 242, 3) := by decide +kernel
theorem dX11_called_79 : decode cX11_called 79 = .ok (.invokestatic 306, 3) := by decide +kernel
theorem dX11_called_82 : decode cX11_called 82 = .ok (.goto 11, 3) := by decide +kernel
theorem dX11_called_85 : decode cX11_called 85 = .ok (.aload_n 0, 1) := by decide +kernel
theorem dX11_called_86 : decode cX11_called 86 = .ok (.getfield 67, 3) := by decide +kernel
theorem dX11_called_89 : decode cX11_called 89 = .ok (.iload_n 2, 1) := by decide +kernel
theorem dX11_called_90 : decode cX11_called 90 = .ok (.iconst 1, 1) := by decide +kernel
theorem dX11_called_91 : decode cX11_called 91 = .ok (.isub, 1) := by decide +kernel
theorem dX11_called_92 : decode cX11_called 92 = .ok (.iaload, 1) := by decide +kernel
theorem dX11_called_93 : decode cX11_called 93 = .ok (.ireturn, 1) := by decide +kernel
theorem dX11_fairest_0 : decode cX11_fairest 0 = .ok (.iconst (-1), 1) := by decide +kernel
theorem dX11_fairest_1 : decode cX11_fairest 1 = .ok (.istore_n 1, 1) := by decide +kernel
theorem dX11_fairest_2 : decode cX11_fairest 2 = .ok (.iconst 0, 1) := by decide +kernel
theorem dX11_fairest_3 : decode cX11_fairest 3 = .ok (.istore_n 2, 1) := by decide +kernel
theorem dX11_fairest_4 : decode cX11_fairest 4 = .ok (.iconst 0, 1) := by decide +kernel
theorem dX11_fairest_5 : decode cX11_fairest 5 = .ok (.istore_n 3, 1) := by decide +kernel
theorem dX11_fairest_6 : decode cX11_fairest 6 = .ok (.iload_n 3, 1) := by decide +kernel
theorem dX11_fairest_7 : decode cX11_fairest 7 = .ok (.aload_n 0, 1) := by decide +kernel
theorem dX11_fairest_8 : decode cX11_fairest 8 = .ok (.getfield 28, 3) := by decide +kernel
theorem dX11_fairest_11 : decode cX11_fairest 11 = .ok (.getfield 300, 3) := by decide +kernel
theorem dX11_fairest_14 : decode cX11_fairest 14 = .ok (.if_icmp .ge 63, 3) := by decide +kernel
theorem dX11_fairest_17 : decode cX11_fairest 17 = .ok (.aload_n 0, 1) := by decide +kernel
theorem dX11_fairest_18 : decode cX11_fairest 18 = .ok (.getfield 28, 3) := by decide +kernel
theorem dX11_fairest_21 : decode cX11_fairest 21 = .ok (.getfield 242, 3) := by decide +kernel
theorem dX11_fairest_24 : decode cX11_fairest 24 = .ok (.ifCond .le 53, 3) := by decide +kernel
theorem dX11_fairest_27 : decode cX11_fairest 27 = .ok (.aload_n 0, 1) := by decide +kernel
theorem dX11_fairest_28 : decode cX11_fairest 28 = .ok (.iload_n 3, 1) := by decide +kernel
theorem dX11_fairest_29 : decode cX11_fairest 29 = .ok (.invokevirtual 303, 3) := by decide +kernel
theorem dX11_fairest_32 : decode cX11_fairest 32 = .ok (.ifCond .eq 39, 3) := by decide +kernel
theorem dX11_fairest_35 : decode cX11_fairest 35 = .ok (.aload_n 0, 1) := by decide +kernel
theorem dX11_fairest_36 : decode cX11_fairest 36 = .ok (.getfield 63, 3) := by decide +kernel
theorem dX11_fairest_39 : decode cX11_fairest 39 = .ok (.getfield 173, 3) := by decide +kernel
theorem dX11_fairest_42 : decode cX11_fairest 42 = .ok (.iconst 0, 1) := by decide +kernel
theorem dX11_fairest_43 : decode cX11_fairest 43 = .ok (.aload_n 0, 1) := by decide +kernel
theorem dX11_fairest_44 : decode cX11_fairest 44 = .ok (.getfield 28, 3) := by decide +kernel
theorem dX11_fairest_47 : decode cX11_fairest 47 = .ok (.getfield 242, 3) := by decide +kernel
theorem dX11_fairest_50 : decode cX11_fairest 50 = .ok (.invokestatic 306, 3) := by decide +kernel
theorem dX11_fairest_53 : decode cX11_fairest 53 = .ok (.istore 4, 2) := by decide +kernel
theorem dX11_fairest_55 : decode cX11_fairest 55 = .ok (.iload_n 1, 1) := by decide +kernel
theorem dX11_fairest_56 : decode cX11_fairest 56 = .ok (.iconst (-1), 1) := by decide +kernel
theorem dX11_fairest_57 : decode cX11_fairest 57 = .ok (.if_icmp .eq 9, 3) := by decide +kernel
theorem dX11_fairest_60 : decode cX11_fairest 60 = .ok (.iload 4, 2) := by decide +kernel
theorem dX11_fairest_62 : decode cX11_fairest 62 = .ok (.iload_n 2, 1) := by decide +kernel
theorem dX11_fairest_63 : decode cX11_fairest 63 = .ok (.if_icmp .ge 8, 3) := by decide +kernel
theorem dX11_fairest_66 : decode cX11_fairest 66 = .ok (.iload_n 3, 1) := by decide +kernel
theorem dX11_fairest_67 : decode cX11_fairest 67 = .ok (.istore_n 1, 1) := by decide +kernel
theorem dX11_fairest_68 : decode cX11_fairest 68 = .ok (.iload 4, 2) := by decide +kernel
theorem dX11_fairest_70 : decode cX11_fairest 70 = .ok (.istore_n 2, 1) := by decide +kernel
theorem dX11_fairest_71 : decode cX11_fairest 71 = .ok (.iinc 3 1, 3) := by decide +kernel
theorem dX11_fairest_74 : decode cX11_fairest 74 = .ok (.goto (-68), 3) := by decide +kernel
theorem dX11_fairest_77 : decode cX11_fairest 77 = .ok (.iload_n 1, 1) := by decide +kernel
theorem dX11_fairest_78 : decode cX11_fairest 78 = .ok (.ireturn, 1) := by decide +kernel
theorem dX11_see_0 : decode cX11_see 0 = .ok (.aload_n 0, 1) := by decide +kernel
theorem dX11_see_1 : decode cX11_see 1 = .ok (.iload_n 1, 1) := by decide +kernel
theorem dX11_see_2 : decode cX11_see 2 = .ok (.invokevirtual 147, 3) := by decide +kernel
theorem dX11_see_5 : decode cX11_see 5 = .ok (.ifCond .eq 19, 3) := by decide +kernel
theorem dX11_see_8 : decode cX11_see 8 = .ok (.aload_n 0, 1) := by decide +kernel
theorem dX11_see_9 : decode cX11_see 9 = .ok (.iload_n 2, 1) := by decide +kernel
theorem dX11_see_10 : decode cX11_see 10 = .ok (.invokevirtual 204, 3) := by decide +kernel
theorem dX11_see_13 : decode cX11_see 13 = .ok (.ifCond .eq 11, 3) := by decide +kernel
theorem dX11_see_16 : decode cX11_see 16 = .ok (.aload_n 0, 1) := by decide +kernel
theorem dX11_see_17 : decode cX11_see 17 = .ok (.iload_n 3, 1) := by decide +kernel
theorem dX11_see_18 : decode cX11_see 18 = .ok (.invokevirtual 176, 3) := by decide +kernel
theorem dX11_see_21 : decode cX11_see 21 = .ok (.ifCond .ne 5, 3) := by decide +kernel
theorem dX11_see_24 : decode cX11_see 24 = .ok (.iconst 0, 1) := by decide +kernel
theorem dX11_see_25 : decode cX11_see 25 = .ok (.ireturn, 1) := by decide +kernel
theorem dX11_see_26 : decode cX11_see 26 = .ok (.aload_n 0, 1) := by decide +kernel
theorem dX11_see_27 : decode cX11_see 27 = .ok (.getfield 48, 3) := by decide +kernel
theorem dX11_see_30 : decode cX11_see 30 = .ok (.iload_n 1, 1) := by decide +kernel
theorem dX11_see_31 : decode cX11_see 31 = .ok (.iload_n 2, 1) := by decide +kernel
theorem dX11_see_32 : decode cX11_see 32 = .ok (.iload_n 3, 1) := by decide +kernel
theorem dX11_see_33 : decode cX11_see 33 = .ok (.iload 4, 2) := by decide +kernel
theorem dX11_see_35 : decode cX11_see 35 = .ok (.invokevirtual 309, 3) := by decide +kernel
theorem dX11_see_38 : decode cX11_see 38 = .ok (.ireturn, 1) := by decide +kernel
theorem dX11_fits_0 : decode cX11_fits 0 = .ok (.iload_n 1, 1) := by decide +kernel
theorem dX11_fits_1 : decode cX11_fits 1 = .ok (.ifCond .lt 16, 3) := by decide +kernel
theorem dX11_fits_4 : decode cX11_fits 4 = .ok (.iload_n 1, 1) := by decide +kernel
theorem dX11_fits_5 : decode cX11_fits 5 = .ok (.iconst 3, 1) := by decide +kernel
theorem dX11_fits_6 : decode cX11_fits 6 = .ok (.aload_n 0, 1) := by decide +kernel
theorem dX11_fits_7 : decode cX11_fits 7 = .ok (.getfield 28, 3) := by decide +kernel
theorem dX11_fits_10 : decode cX11_fits 10 = .ok (.getfield 239, 3) := by decide +kernel
theorem dX11_fits_13 : decode cX11_fits 13 = .ok (.iadd, 1) := by decide +kernel
theorem dX11_fits_14 : decode cX11_fits 14 = .ok (.if_icmp .lt 5, 3) := by decide +kernel
theorem dX11_fits_17 : decode cX11_fits 17 = .ok (.iconst (-1), 1) := by decide +kernel
theorem dX11_fits_18 : decode cX11_fits 18 = .ok (.ireturn, 1) := by decide +kernel
theorem dX11_fits_19 : decode cX11_fits 19 = .ok (.aload_n 0, 1) := by decide +kernel
theorem dX11_fits_20 : decode cX11_fits 20 = .ok (.invokevirtual 313, 3) := by decide +kernel
theorem dX11_fits_23 : decode cX11_fits 23 = .ok (.istore_n 2, 1) := by decide +kernel
theorem dX11_fits_24 : decode cX11_fits 24 = .ok (.iload_n 1, 1) := by decide +kernel
theorem dX11_fits_25 : decode cX11_fits 25 = .ok (.ifCond .ne 5, 3) := by decide +kernel
theorem dX11_fits_28 : decode cX11_fits 28 = .ok (.iload_n 2, 1) := by decide +kernel
theorem dX11_fits_29 : decode cX11_fits 29 = .ok (.ireturn, 1) := by decide +kernel
theorem dX11_fits_30 : decode cX11_fits 30 = .ok (.iload_n 2, 1) := by decide +kernel
theorem dX11_fits_31 : decode cX11_fits 31 = .ok (.ifCond .ne 5, 3) := by decide +kernel
theorem dX11_fits_34 : decode cX11_fits 34 = .ok (.iconst (-1), 1) := by decide +kernel
theorem dX11_fits_35 : decode cX11_fits 35 = .ok (.ireturn, 1) := by decide +kernel
theorem dX11_fits_36 : decode cX11_fits 36 = .ok (.iload_n 1, 1) := by decide +kernel
theorem dX11_fits_37 : decode cX11_fits 37 = .ok (.iconst 3, 1) := by decide +kernel
theorem dX11_fits_38 : decode cX11_fits 38 = .ok (.if_icmp .ge 18, 3) := by decide +kernel
theorem dX11_fits_41 : decode cX11_fits 41 = .ok (.aload_n 0, 1) := by decide +kernel
theorem dX11_fits_42 : decode cX11_fits 42 = .ok (.iload_n 1, 1) := by decide +kernel
theorem dX11_fits_43 : decode cX11_fits 43 = .ok (.iconst 1, 1) := by decide +kernel
theorem dX11_fits_44 : decode cX11_fits 44 = .ok (.if_icmp .ne 7, 3) := by decide +kernel
theorem dX11_fits_47 : decode cX11_fits 47 = .ok (.iconst 1, 1) := by decide +kernel
theorem dX11_fits_48 : decode cX11_fits 48 = .ok (.goto 4, 3) := by decide +kernel
theorem dX11_fits_51 : decode cX11_fits 51 = .ok (.iconst 0, 1) := by decide +kernel
theorem dX11_fits_52 : decode cX11_fits 52 = .ok (.invokevirtual 316, 3) := by decide +kernel
theorem dX11_fits_55 : decode cX11_fits 55 = .ok (.ireturn, 1) := by decide +kernel
theorem dX11_fits_56 : decode cX11_fits 56 = .ok (.aload_n 0, 1) := by decide +kernel
theorem dX11_fits_57 : decode cX11_fits 57 = .ok (.getfield 28, 3) := by decide +kernel
theorem dX11_fits_60 : decode cX11_fits 60 = .ok (.aload_n 0, 1) := by decide +kernel
theorem dX11_fits_61 : decode cX11_fits 61 = .ok (.getfield 71, 3) := by decide +kernel
theorem dX11_fits_64 : decode cX11_fits 64 = .ok (.iload_n 1, 1) := by decide +kernel
theorem dX11_fits_65 : decode cX11_fits 65 = .ok (.iconst 3, 1) := by decide +kernel
theorem dX11_fits_66 : decode cX11_fits 66 = .ok (.isub, 1) := by decide +kernel
theorem dX11_fits_67 : decode cX11_fits 67 = .ok (.iaload, 1) := by decide +kernel
theorem dX11_fits_68 : decode cX11_fits 68 = .ok (.invokestatic 320, 3) := by decide +kernel
theorem dX11_fits_71 : decode cX11_fits 71 = .ok (.invokevirtual 325, 3) := by decide +kernel
theorem dX11_fits_74 : decode cX11_fits 74 = .ok (.ireturn, 1) := by decide +kernel
theorem dX11_years_0 : decode cX11_years 0 = .ok (.iload_n 1, 1) := by decide +kernel
theorem dX11_years_1 : decode cX11_years 1 = .ok (.ifCond .lt 25, 3) := by decide +kernel
theorem dX11_years_4 : decode cX11_years 4 = .ok (.iload_n 1, 1) := by decide +kernel
theorem dX11_years_5 : decode cX11_years 5 = .ok (.sipush 9999, 3) := by decide +kernel
theorem dX11_years_8 : decode cX11_years 8 = .ok (.if_icmp .gt 18, 3) := by decide +kernel
theorem dX11_years_11 : decode cX11_years 11 = .ok (.iload_n 2, 1) := by decide +kernel
theorem dX11_years_12 : decode cX11_years 12 = .ok (.iconst 1, 1) := by decide +kernel
theorem dX11_years_13 : decode cX11_years 13 = .ok (.if_icmp .lt 13, 3) := by decide +kernel
theorem dX11_years_16 : decode cX11_years 16 = .ok (.iload_n 2, 1) := by decide +kernel
theorem dX11_years_17 : decode cX11_years 17 = .ok (.bipush 60, 2) := by decide +kernel
theorem dX11_years_19 : decode cX11_years 19 = .ok (.if_icmp .gt 7, 3) := by decide +kernel
theorem dX11_years_22 : decode cX11_years 22 = .ok (.iconst 1, 1) := by decide +kernel
theorem dX11_years_23 : decode cX11_years 23 = .ok (.goto 4, 3) := by decide +kernel
theorem dX11_years_26 : decode cX11_years 26 = .ok (.iconst 0, 1) := by decide +kernel
theorem dX11_years_27 : decode cX11_years 27 = .ok (.istore 4, 2) := by decide +kernel
theorem dX11_years_29 : decode cX11_years 29 = .ok (.iload 4, 2) := by decide +kernel
theorem dX11_years_31 : decode cX11_years 31 = .ok (.ifCond .eq 22, 3) := by decide +kernel
theorem dX11_years_34 : decode cX11_years 34 = .ok (.iload_n 3, 1) := by decide +kernel
theorem dX11_years_35 : decode cX11_years 35 = .ok (.ifCond .lt 18, 3) := by decide +kernel
theorem dX11_years_38 : decode cX11_years 38 = .ok (.iload_n 3, 1) := by decide +kernel
theorem dX11_years_39 : decode cX11_years 39 = .ok (.iconst 1, 1) := by decide +kernel
theorem dX11_years_40 : decode cX11_years 40 = .ok (.if_icmp .gt 13, 3) := by decide +kernel
theorem dX11_years_43 : decode cX11_years 43 = .ok (.aload_n 0, 1) := by decide +kernel
theorem dX11_years_44 : decode cX11_years 44 = .ok (.getfield 28, 3) := by decide +kernel
theorem dX11_years_47 : decode cX11_years 47 = .ok (.getfield 242, 3) := by decide +kernel
theorem dX11_years_50 : decode cX11_years 50 = .ok (.ifCond .ne 5, 3) := by decide +kernel
theorem dX11_years_53 : decode cX11_years 53 = .ok (.iconst (-1), 1) := by decide +kernel
theorem dX11_years_54 : decode cX11_years 54 = .ok (.ireturn, 1) := by decide +kernel
theorem dX11_years_55 : decode cX11_years 55 = .ok (.aload_n 0, 1) := by decide +kernel
theorem dX11_years_56 : decode cX11_years 56 = .ok (.getfield 104, 3) := by decide +kernel
theorem dX11_years_59 : decode cX11_years 59 = .ok (.aload_n 0, 1) := by decide +kernel
theorem dX11_years_60 : decode cX11_years 60 = .ok (.getfield 28, 3) := by decide +kernel
theorem dX11_years_63 : decode cX11_years 63 = .ok (.iload_n 1, 1) := by decide +kernel
theorem dX11_years_64 : decode cX11_years 64 = .ok (.iload_n 2, 1) := by decide +kernel
theorem dX11_years_65 : decode cX11_years 65 = .ok (.invokevirtual 328, 3) := by decide +kernel
theorem dX11_years_68 : decode cX11_years 68 = .ok (.iload_n 3, 1) := by decide +kernel
theorem dX11_years_69 : decode cX11_years 69 = .ok (.ifCond .ne 24, 3) := by decide +kernel
theorem dX11_years_72 : decode cX11_years 72 = .ok (.aload_n 0, 1) := by decide +kernel
theorem dX11_years_73 : decode cX11_years 73 = .ok (.getfield 104, 3) := by decide +kernel
theorem dX11_years_76 : decode cX11_years 76 = .ok (.getfield 332, 3) := by decide +kernel
theorem dX11_years_79 : decode cX11_years 79 = .ok (.iconst 0, 1) := by decide +kernel
theorem dX11_years_80 : decode cX11_years 80 = .ok (.aload_n 0, 1) := by decide +kernel
theorem dX11_years_81 : decode cX11_years 81 = .ok (.getfield 28, 3) := by decide +kernel
theorem dX11_years_84 : decode cX11_years 84 = .ok (.getfield 242, 3) := by decide +kernel
theorem dX11_years_87 : decode cX11_years 87 = .ok (.invokestatic 306, 3) := by decide +kernel
theorem dX11_years_90 : decode cX11_years 90 = .ok (.goto 10, 3) := by decide +kernel
theorem dX11_years_93 : decode cX11_years 93 = .ok (.aload_n 0, 1) := by decide +kernel
theorem dX11_years_94 : decode cX11_years 94 = .ok (.getfield 104, 3) := by decide +kernel
theorem dX11_years_97 : decode cX11_years 97 = .ok (.getfield 333, 3) := by decide +kernel
theorem dX11_years_100 : decode cX11_years 100 = .ok (.ireturn, 1) := by decide +kernel
theorem dX11_mark_0 : decode cX11_mark 0 = .ok (.iload_n 1, 1) := by decide +kernel
theorem dX11_mark_1 : decode cX11_mark 1 = .ok (.ifCond .lt 8, 3) := by decide +kernel
theorem dX11_mark_4 : decode cX11_mark 4 = .ok (.iload_n 1, 1) := by decide +kernel
theorem dX11_mark_5 : decode cX11_mark 5 = .ok (.iconst 4, 1) := by decide +kernel
theorem dX11_mark_6 : decode cX11_mark 6 = .ok (.if_icmp .lt 5, 3) := by decide +kernel
theorem dX11_mark_9 : decode cX11_mark 9 = .ok (.iconst 0, 1) := by decide +kernel
theorem dX11_mark_10 : decode cX11_mark 10 = .ok (.ireturn, 1) := by decide +kernel
theorem dX11_mark_11 : decode cX11_mark 11 = .ok (.iload_n 2, 1) := by decide +kernel
theorem dX11_mark_12 : decode cX11_mark 12 = .ok (.ifCond .ne 28, 3) := by decide +kernel
theorem dX11_mark_15 : decode cX11_mark 15 = .ok (.aload_n 0, 1) := by decide +kernel
theorem dX11_mark_16 : decode cX11_mark 16 = .ok (.getfield 52, 3) := by decide +kernel
theorem dX11_mark_19 : decode cX11_mark 19 = .ok (.iload_n 1, 1) := by decide +kernel
theorem dX11_mark_20 : decode cX11_mark 20 = .ok (.aaload, 1) := by decide +kernel
theorem dX11_mark_21 : decode cX11_mark 21 = .ok (.aload_n 0, 1) := by decide +kernel
theorem dX11_mark_22 : decode cX11_mark 22 = .ok (.getfield 48, 3) := by decide +kernel
theorem dX11_mark_25 : decode cX11_mark 25 = .ok (.invokevirtual 336, 3) := by decide +kernel
theorem dX11_mark_28 : decode cX11_mark 28 = .ok (.aload_n 0, 1) := by decide +kernel
theorem dX11_mark_29 : decode cX11_mark 29 = .ok (.getfield 52, 3) := by decide +kernel
theorem dX11_mark_32 : decode cX11_mark 32 = .ok (.iload_n 1, 1) := by decide +kernel
theorem dX11_mark_33 : decode cX11_mark 33 = .ok (.aaload, 1) := by decide +kernel
theorem dX11_mark_34 : decode cX11_mark 34 = .ok (.iconst 1, 1) := by decide +kernel
theorem dX11_mark_35 : decode cX11_mark 35 = .ok (.putfield 339, 3) := by decide +kernel
theorem dX11_mark_38 : decode cX11_mark 38 = .ok (.iconst 1, 1) := by decide +kernel
theorem dX11_mark_39 : decode cX11_mark 39 = .ok (.ireturn, 1) := by decide +kernel
theorem dX11_mark_40 : decode cX11_mark 40 = .ok (.aload_n 0, 1) := by decide +kernel
theorem dX11_mark_41 : decode cX11_mark 41 = .ok (.getfield 52, 3) := by decide +kernel
theorem dX11_mark_44 : decode cX11_mark 44 = .ok (.iload_n 1, 1) := by decide +kernel
theorem dX11_mark_45 : decode cX11_mark 45 = .ok (.aaload, 1) := by decide +kernel
theorem dX11_mark_46 : decode cX11_mark 46 = .ok (.getfield 339, 3) := by decide +kernel
theorem dX11_mark_49 : decode cX11_mark 49 = .ok (.ifCond .ne 5, 3) := by decide +kernel
theorem dX11_mark_52 : decode cX11_mark 52 = .ok (.iconst 0, 1) := by decide +kernel
theorem dX11_mark_53 : decode cX11_mark 53 = .ok (.ireturn, 1) := by decide +kernel
theorem dX11_mark_54 : decode cX11_mark 54 = .ok (.aload_n 0, 1) := by decide +kernel
theorem dX11_mark_55 : decode cX11_mark 55 = .ok (.getfield 48, 3) := by decide +kernel
theorem dX11_mark_58 : decode cX11_mark 58 = .ok (.aload_n 0, 1) := by decide +kernel
theorem dX11_mark_59 : decode cX11_mark 59 = .ok (.getfield 52, 3) := by decide +kernel
theorem dX11_mark_62 : decode cX11_mark 62 = .ok (.iload_n 1, 1) := by decide +kernel
theorem dX11_mark_63 : decode cX11_mark 63 = .ok (.aaload, 1) := by decide +kernel
theorem dX11_mark_64 : decode cX11_mark 64 = .ok (.invokevirtual 336, 3) := by decide +kernel
theorem dX11_mark_67 : decode cX11_mark 67 = .ok (.aload_n 0, 1) := by decide +kernel
theorem dX11_mark_68 : decode cX11_mark 68 = .ok (.iconst 0, 1) := by decide +kernel
theorem dX11_mark_69 : decode cX11_mark 69 = .ok (.putfield 224, 3) := by decide +kernel
theorem dX11_mark_72 : decode cX11_mark 72 = .ok (.iconst 1, 1) := by decide +kernel
theorem dX11_mark_73 : decode cX11_mark 73 = .ok (.ireturn, 1) := by decide +kernel
theorem dX11_count_0 : decode cX11_count 0 = .ok (.iload_n 1, 1) := by decide +kernel
theorem dX11_count_1 : decode cX11_count 1 = .ok (.tableswitch 177 0 11 #[63, 71, 79, 87, 95, 106, 124, 132, 148, 156, 164, 169], 63) := by decide +kernel
theorem dX11_count_64 : decode cX11_count 64 = .ok (.aload_n 0, 1) := by decide +kernel
theorem dX11_count_65 : decode cX11_count 65 = .ok (.getfield 28, 3) := by decide +kernel
theorem dX11_count_68 : decode cX11_count 68 = .ok (.getfield 179, 3) := by decide +kernel
theorem dX11_count_71 : decode cX11_count 71 = .ok (.ireturn, 1) := by decide +kernel
theorem dX11_count_72 : decode cX11_count 72 = .ok (.aload_n 0, 1) := by decide +kernel
theorem dX11_count_73 : decode cX11_count 73 = .ok (.getfield 28, 3) := by decide +kernel
theorem dX11_count_76 : decode cX11_count 76 = .ok (.getfield 239, 3) := by decide +kernel
theorem dX11_count_79 : decode cX11_count 79 = .ok (.ireturn, 1) := by decide +kernel
theorem dX11_count_80 : decode cX11_count 80 = .ok (.aload_n 0, 1) := by decide +kernel
theorem dX11_count_81 : decode cX11_count 81 = .ok (.getfield 28, 3) := by decide +kernel
theorem dX11_count_84 : decode cX11_count 84 = .ok (.getfield 242, 3) := by decide +kernel
theorem dX11_count_87 : decode cX11_count 87 = .ok (.ireturn, 1) := by decide +kernel
theorem dX11_count_88 : decode cX11_count 88 = .ok (.aload_n 0, 1) := by decide +kernel
theorem dX11_count_89 : decode cX11_count 89 = .ok (.getfield 28, 3) := by decide +kernel
theorem dX11_count_92 : decode cX11_count 92 = .ok (.getfield 300, 3) := by decide +kernel
theorem dX11_count_95 : decode cX11_count 95 = .ok (.ireturn, 1) := by decide +kernel
theorem dX11_count_96 : decode cX11_count 96 = .ok (.aload_n 0, 1) := by decide +kernel
theorem dX11_count_97 : decode cX11_count 97 = .ok (.getfield 48, 3) := by decide +kernel
theorem dX11_count_100 : decode cX11_count 100 = .ok (.getfield 167, 3) := by decide +kernel
theorem dX11_count_103 : decode cX11_count 103 = .ok (.getfield 221, 3) := by decide +kernel
theorem dX11_count_106 : decode cX11_count 106 = .ok (.ireturn, 1) := by decide +kernel
theorem dX11_count_107 : decode cX11_count 107 = .ok (.aload_n 0, 1) := by decide +kernel
theorem dX11_count_108 : decode cX11_count 108 = .ok (.getfield 48, 3) := by decide +kernel
theorem dX11_count_111 : decode cX11_count 111 = .ok (.getfield 167, 3) := by decide +kernel
theorem dX11_count_114 : decode cX11_count 114 = .ok (.aload_n 0, 1) := by decide +kernel
theorem dX11_count_115 : decode cX11_count 115 = .ok (.getfield 28, 3) := by decide +kernel
theorem dX11_count_118 : decode cX11_count 118 = .ok (.getfield 242, 3) := by decide +kernel
theorem dX11_count_121 : decode cX11_count 121 = .ok (.invokevirtual 342, 3) := by decide +kernel
theorem dX11_count_124 : decode cX11_count 124 = .ok (.ireturn, 1) := by decide +kernel
theorem dX11_count_125 : decode cX11_count 125 = .ok (.aload_n 0, 1) := by decide +kernel
theorem dX11_count_126 : decode cX11_count 126 = .ok (.getfield 38, 3) := by decide +kernel
theorem dX11_count_129 : decode cX11_count 129 = .ok (.getfield 345, 3) := by decide +kernel
theorem dX11_count_132 : decode cX11_count 132 = .ok (.ireturn, 1) := by decide +kernel
theorem dX11_count_133 : decode cX11_count 133 = .ok (.aload_n 0, 1) := by decide +kernel
theorem dX11_count_134 : decode cX11_count 134 = .ok (.getfield 48, 3) := by decide +kernel
theorem dX11_count_137 : decode cX11_count 137 = .ok (.getfield 143, 3) := by decide +kernel
theorem dX11_count_140 : decode cX11_count 140 = .ok (.ifCond .eq 7, 3) := by decide +kernel
theorem dX11_count_143 : decode cX11_count 143 = .ok (.iconst 1, 1) := by decide +kernel
theorem dX11_count_144 : decode cX11_count 144 = .ok (.goto 4, 3) := by decide +kernel
theorem dX11_count_147 : decode cX11_count 147 = .ok (.iconst 0, 1) := by decide +kernel
theorem dX11_count_148 : decode cX11_count 148 = .ok (.ireturn, 1) := by decide +kernel
theorem dX11_count_149 : decode cX11_count 149 = .ok (.aload_n 0, 1) := by decide +kernel
theorem dX11_count_150 : decode cX11_count 150 = .ok (.getfield 48, 3) := by decide +kernel
theorem dX11_count_153 : decode cX11_count 153 = .ok (.getfield 348, 3) := by decide +kernel
theorem dX11_count_156 : decode cX11_count 156 = .ok (.ireturn, 1) := by decide +kernel
theorem dX11_count_157 : decode cX11_count 157 = .ok (.aload_n 0, 1) := by decide +kernel
theorem dX11_count_158 : decode cX11_count 158 = .ok (.getfield 28, 3) := by decide +kernel
theorem dX11_count_161 : decode cX11_count 161 = .ok (.getfield 351, 3) := by decide +kernel
theorem dX11_count_164 : decode cX11_count 164 = .ok (.ireturn, 1) := by decide +kernel
theorem dX11_count_165 : decode cX11_count 165 = .ok (.aload_n 0, 1) := by decide +kernel
theorem dX11_count_166 : decode cX11_count 166 = .ok (.getfield 224, 3) := by decide +kernel
theorem dX11_count_169 : decode cX11_count 169 = .ok (.ireturn, 1) := by decide +kernel
theorem dX11_count_170 : decode cX11_count 170 = .ok (.aload_n 0, 1) := by decide +kernel
theorem dX11_count_171 : decode cX11_count 171 = .ok (.getfield 10, 3) := by decide +kernel
theorem dX11_count_174 : decode cX11_count 174 = .ok (.getfield 118, 3) := by decide +kernel
theorem dX11_count_177 : decode cX11_count 177 = .ok (.ireturn, 1) := by decide +kernel
theorem dX11_count_178 : decode cX11_count 178 = .ok (.iconst (-1), 1) := by decide +kernel
theorem dX11_count_179 : decode cX11_count 179 = .ok (.ireturn, 1) := by decide +kernel
theorem dX11_isRider_0 : decode cX11_isRider 0 = .ok (.iload_n 1, 1) := by decide +kernel
theorem dX11_isRider_1 : decode cX11_isRider 1 = .ok (.ifCond .lt 18, 3) := by decide +kernel
theorem dX11_isRider_4 : decode cX11_isRider 4 = .ok (.iload_n 1, 1) := by decide +kernel
theorem dX11_isRider_5 : decode cX11_isRider 5 = .ok (.aload_n 0, 1) := by decide +kernel
theorem dX11_isRider_6 : decode cX11_isRider 6 = .ok (.getfield 28, 3) := by decide +kernel
theorem dX11_isRider_9 : decode cX11_isRider 9 = .ok (.getfield 242, 3) := by decide +kernel
theorem dX11_isRider_12 : decode cX11_isRider 12 = .ok (.if_icmp .ge 7, 3) := by decide +kernel
theorem dX11_isRider_15 : decode cX11_isRider 15 = .ok (.iconst 1, 1) := by decide +kernel
theorem dX11_isRider_16 : decode cX11_isRider 16 = .ok (.goto 4, 3) := by decide +kernel
theorem dX11_isRider_19 : decode cX11_isRider 19 = .ok (.iconst 0, 1) := by decide +kernel
theorem dX11_isRider_20 : decode cX11_isRider 20 = .ok (.ireturn, 1) := by decide +kernel
theorem dX11_isSeat_0 : decode cX11_isSeat 0 = .ok (.iload_n 1, 1) := by decide +kernel
theorem dX11_isSeat_1 : decode cX11_isSeat 1 = .ok (.ifCond .lt 18, 3) := by decide +kernel
theorem dX11_isSeat_4 : decode cX11_isSeat 4 = .ok (.iload_n 1, 1) := by decide +kernel
theorem dX11_isSeat_5 : decode cX11_isSeat 5 = .ok (.aload_n 0, 1) := by decide +kernel
theorem dX11_isSeat_6 : decode cX11_isSeat 6 = .ok (.getfield 28, 3) := by decide +kernel
theorem dX11_isSeat_9 : decode cX11_isSeat 9 = .ok (.getfield 179, 3) := by decide +kernel
theorem dX11_isSeat_12 : decode cX11_isSeat 12 = .ok (.if_icmp .ge 7, 3) := by decide +kernel
theorem dX11_isSeat_15 : decode cX11_isSeat 15 = .ok (.iconst 1, 1) := by decide +kernel
theorem dX11_isSeat_16 : decode cX11_isSeat 16 = .ok (.goto 4, 3) := by decide +kernel
theorem dX11_isSeat_19 : decode cX11_isSeat 19 = .ok (.iconst 0, 1) := by decide +kernel
theorem dX11_isSeat_20 : decode cX11_isSeat 20 = .ok (.ireturn, 1) := by decide +kernel
theorem dX11_isStretch_0 : decode cX11_isStretch 0 = .ok (.iload_n 1, 1) := by decide +kernel
theorem dX11_isStretch_1 : decode cX11_isStretch 1 = .ok (.ifCond .lt 18, 3) := by decide +kernel
theorem dX11_isStretch_4 : decode cX11_isStretch 4 = .ok (.iload_n 1, 1) := by decide +kernel
theorem dX11_isStretch_5 : decode cX11_isStretch 5 = .ok (.aload_n 0, 1) := by decide +kernel
theorem dX11_isStretch_6 : decode cX11_isStretch 6 = .ok (.getfield 28, 3) := by decide +kernel
theorem dX11_isStretch_9 : decode cX11_isStretch 9 = .ok (.getfield 239, 3) := by decide +kernel
theorem dX11_isStretch_12 : decode cX11_isStretch 12 = .ok (.if_icmp .ge 7, 3) := by decide +kernel
theorem dX11_isStretch_15 : decode cX11_isStretch 15 = .ok (.iconst 1, 1) := by decide +kernel
theorem dX11_isStretch_16 : decode cX11_isStretch 16 = .ok (.goto 4, 3) := by decide +kernel
theorem dX11_isStretch_19 : decode cX11_isStretch 19 = .ok (.iconst 0, 1) := by decide +kernel
theorem dX11_isStretch_20 : decode cX11_isStretch 20 = .ok (.ireturn, 1) := by decide +kernel
theorem dX11_beginRoad_0 : decode cX11_beginRoad 0 = .ok (.aload_n 0, 1) := by decide +kernel
theorem dX11_beginRoad_1 : decode cX11_beginRoad 1 = .ok (.getfield 28, 3) := by decide +kernel
theorem dX11_beginRoad_4 : decode cX11_beginRoad 4 = .ok (.aload_n 0, 1) := by decide +kernel
theorem dX11_beginRoad_5 : decode cX11_beginRoad 5 = .ok (.getfield 74, 3) := by decide +kernel
theorem dX11_beginRoad_8 : decode cX11_beginRoad 8 = .ok (.invokevirtual 354, 3) := by decide +kernel
theorem dX11_beginRoad_11 : decode cX11_beginRoad 11 = .ok (.aload_n 0, 1) := by decide +kernel
theorem dX11_beginRoad_12 : decode cX11_beginRoad 12 = .ok (.getfield 83, 3) := by decide +kernel
theorem dX11_beginRoad_15 : decode cX11_beginRoad 15 = .ok (.aload_n 0, 1) := by decide +kernel
theorem dX11_beginRoad_16 : decode cX11_beginRoad 16 = .ok (.getfield 28, 3) := by decide +kernel
theorem dX11_beginRoad_19 : decode cX11_beginRoad 19 = .ok (.invokevirtual 358, 3) := by decide +kernel
theorem dX11_beginRoad_22 : decode cX11_beginRoad 22 = .ok (.aload_n 0, 1) := by decide +kernel
theorem dX11_beginRoad_23 : decode cX11_beginRoad 23 = .ok (.getfield 48, 3) := by decide +kernel
theorem dX11_beginRoad_26 : decode cX11_beginRoad 26 = .ok (.aload_n 0, 1) := by decide +kernel
theorem dX11_beginRoad_27 : decode cX11_beginRoad 27 = .ok (.getfield 28, 3) := by decide +kernel
theorem dX11_beginRoad_30 : decode cX11_beginRoad 30 = .ok (.invokevirtual 361, 3) := by decide +kernel
theorem dX11_beginRoad_33 : decode cX11_beginRoad 33 = .ok (.iconst 0, 1) := by decide +kernel
theorem dX11_beginRoad_34 : decode cX11_beginRoad 34 = .ok (.istore_n 1, 1) := by decide +kernel
theorem dX11_beginRoad_35 : decode cX11_beginRoad 35 = .ok (.iload_n 1, 1) := by decide +kernel
theorem dX11_beginRoad_36 : decode cX11_beginRoad 36 = .ok (.iconst 4, 1) := by decide +kernel
theorem dX11_beginRoad_37 : decode cX11_beginRoad 37 = .ok (.if_icmp .ge 19, 3) := by decide +kernel
theorem dX11_beginRoad_40 : decode cX11_beginRoad 40 = .ok (.aload_n 0, 1) := by decide +kernel
theorem dX11_beginRoad_41 : decode cX11_beginRoad 41 = .ok (.getfield 52, 3) := by decide +kernel
theorem dX11_beginRoad_44 : decode cX11_beginRoad 44 = .ok (.iload_n 1, 1) := by decide +kernel
theorem dX11_beginRoad_45 : decode cX11_beginRoad 45 = .ok (.aaload, 1) := by decide +kernel
theorem dX11_beginRoad_46 : decode cX11_beginRoad 46 = .ok (.iconst 0, 1) := by decide +kernel
theorem dX11_beginRoad_47 : decode cX11_beginRoad 47 = .ok (.putfield 339, 3) := by decide +kernel
theorem dX11_beginRoad_50 : decode cX11_beginRoad 50 = .ok (.iinc 1 1, 3) := by decide +kernel
theorem dX11_beginRoad_53 : decode cX11_beginRoad 53 = .ok (.goto (-18), 3) := by decide +kernel
theorem dX11_beginRoad_56 : decode cX11_beginRoad 56 = .ok (.aload_n 0, 1) := by decide +kernel
theorem dX11_beginRoad_57 : decode cX11_beginRoad 57 = .ok (.getfield 38, 3) := by decide +kernel
theorem dX11_beginRoad_60 : decode cX11_beginRoad 60 = .ok (.iconst 0, 1) := by decide +kernel
theorem dX11_beginRoad_61 : decode cX11_beginRoad 61 = .ok (.putfield 345, 3) := by decide +kernel
theorem dX11_beginRoad_64 : decode cX11_beginRoad 64 = .ok (.aload_n 0, 1) := by decide +kernel
theorem dX11_beginRoad_65 : decode cX11_beginRoad 65 = .ok (.iconst 0, 1) := by decide +kernel
theorem dX11_beginRoad_66 : decode cX11_beginRoad 66 = .ok (.putfield 224, 3) := by decide +kernel
theorem dX11_beginRoad_69 : decode cX11_beginRoad 69 = .ok (.return_, 1) := by decide +kernel
theorem dX11_remember_0 : decode cX11_remember 0 = .ok (.aload_n 0, 1) := by decide +kernel
theorem dX11_remember_1 : decode cX11_remember 1 = .ok (.getfield 58, 3) := by decide +kernel
theorem dX11_remember_4 : decode cX11_remember 4 = .ok (.aload_n 0, 1) := by decide +kernel
theorem dX11_remember_5 : decode cX11_remember 5 = .ok (.getfield 227, 3) := by decide +kernel
theorem dX11_remember_8 : decode cX11_remember 8 = .ok (.aaload, 1) := by decide +kernel
theorem dX11_remember_9 : decode cX11_remember 9 = .ok (.aload_n 0, 1) := by decide +kernel
theorem dX11_remember_10 : decode cX11_remember 10 = .ok (.getfield 48, 3) := by decide +kernel
theorem dX11_remember_13 : decode cX11_remember 13 = .ok (.getfield 167, 3) := by decide +kernel
theorem dX11_remember_16 : decode cX11_remember 16 = .ok (.invokevirtual 230, 3) := by decide +kernel
theorem dX11_remember_19 : decode cX11_remember 19 = .ok (.aload_n 0, 1) := by decide +kernel
theorem dX11_remember_20 : decode cX11_remember 20 = .ok (.aload_n 0, 1) := by decide +kernel
theorem dX11_remember_21 : decode cX11_remember 21 = .ok (.getfield 227, 3) := by decide +kernel
theorem dX11_remember_24 : decode cX11_remember 24 = .ok (.iconst 1, 1) := by decide +kernel
theorem dX11_remember_25 : decode cX11_remember 25 = .ok (.iadd, 1) := by decide +kernel
theorem dX11_remember_26 : decode cX11_remember 26 = .ok (.bipush 16, 2) := by decide +kernel
theorem dX11_remember_28 : decode cX11_remember 28 = .ok (.irem, 1) := by decide +kernel
theorem dX11_remember_29 : decode cX11_remember 29 = .ok (.putfield 227, 3) := by decide +kernel
theorem dX11_remember_32 : decode cX11_remember 32 = .ok (.aload_n 0, 1) := by decide +kernel
theorem dX11_remember_33 : decode cX11_remember 33 = .ok (.aload_n 0, 1) := by decide +kernel
theorem dX11_remember_34 : decode cX11_remember 34 = .ok (.getfield 224, 3) := by decide +kernel
theorem dX11_remember_37 : decode cX11_remember 37 = .ok (.iconst 1, 1) := by decide +kernel
theorem dX11_remember_38 : decode cX11_remember 38 = .ok (.iadd, 1) := by decide +kernel
theorem dX11_remember_39 : decode cX11_remember 39 = .ok (.bipush 16, 2) := by decide +kernel
theorem dX11_remember_41 : decode cX11_remember 41 = .ok (.invokestatic 362, 3) := by decide +kernel
theorem dX11_remember_44 : decode cX11_remember 44 = .ok (.putfield 224, 3) := by decide +kernel
theorem dX11_remember_47 : decode cX11_remember 47 = .ok (.return_, 1) := by decide +kernel
theorem dX11_judgeTold_0 : decode cX11_judgeTold 0 = .ok (.iconst (-1), 1) := by decide +kernel
theorem dX11_judgeTold_1 : decode cX11_judgeTold 1 = .ok (.istore_n 1, 1) := by decide +kernel
theorem dX11_judgeTold_2 : decode cX11_judgeTold 2 = .ok (.aload_n 0, 1) := by decide +kernel
theorem dX11_judgeTold_3 : decode cX11_judgeTold 3 = .ok (.getfield 63, 3) := by decide +kernel
theorem dX11_judgeTold_6 : decode cX11_judgeTold 6 = .ok (.aload_n 0, 1) := by decide +kernel
theorem dX11_judgeTold_7 : decode cX11_judgeTold 7 = .ok (.getfield 28, 3) := by decide +kernel
theorem dX11_judgeTold_10 : decode cX11_judgeTold 10 = .ok (.invokevirtual 367, 3) := by decide +kernel
theorem dX11_judgeTold_13 : decode cX11_judgeTold 13 = .ok (.iconst 0, 1) := by decide +kernel
theorem dX11_judgeTold_14 : decode cX11_judgeTold 14 = .ok (.istore_n 2, 1) := by decide +kernel
theorem dX11_judgeTold_15 : decode cX11_judgeTold 15 = .ok (.iload_n 2, 1) := by decide +kernel
theorem dX11_judgeTold_16 : decode cX11_judgeTold 16 = .ok (.aload_n 0, 1) := by decide +kernel
theorem dX11_judgeTold_17 : decode cX11_judgeTold 17 = .ok (.getfield 38, 3) := by decide +kernel
theorem dX11_judgeTold_20 : decode cX11_judgeTold 20 = .ok (.getfield 345, 3) := by decide +kernel
theorem dX11_judgeTold_23 : decode cX11_judgeTold 23 = .ok (.if_icmp .ge 86, 3) := by decide +kernel
theorem dX11_judgeTold_26 : decode cX11_judgeTold 26 = .ok (.aload_n 0, 1) := by decide +kernel
theorem dX11_judgeTold_27 : decode cX11_judgeTold 27 = .ok (.getfield 38, 3) := by decide +kernel
theorem dX11_judgeTold_30 : decode cX11_judgeTold 30 = .ok (.getfield 368, 3) := by decide +kernel
theorem dX11_judgeTold_33 : decode cX11_judgeTold 33 = .ok (.iload_n 2, 1) := by decide +kernel
theorem dX11_judgeTold_34 : decode cX11_judgeTold 34 = .ok (.iaload, 1) := by decide +kernel
theorem dX11_judgeTold_35 : decode cX11_judgeTold 35 = .ok (.iconst (-1), 1) := by decide +kernel
theorem dX11_judgeTold_36 : decode cX11_judgeTold 36 = .ok (.if_icmp .eq 32, 3) := by decide +kernel
theorem dX11_judgeTold_39 : decode cX11_judgeTold 39 = .ok (.aload_n 0, 1) := by decide +kernel
theorem dX11_judgeTold_40 : decode cX11_judgeTold 40 = .ok (.getfield 63, 3) := by decide +kernel
theorem dX11_judgeTold_43 : decode cX11_judgeTold 43 = .ok (.aload_n 0, 1) := by decide +kernel
theorem dX11_judgeTold_44 : decode cX11_judgeTold 44 = .ok (.getfield 38, 3) := by decide +kernel
theorem dX11_judgeTold_47 : decode cX11_judgeTold 47 = .ok (.getfield 368, 3) := by decide +kernel
theorem dX11_judgeTold_50 : decode cX11_judgeTold 50 = .ok (.iload_n 2, 1) := by decide +kernel
theorem dX11_judgeTold_51 : decode cX11_judgeTold 51 = .ok (.iaload, 1) := by decide +kernel
theorem dX11_judgeTold_52 : decode cX11_judgeTold 52 = .ok (.aload_n 0, 1) := by decide +kernel
theorem dX11_judgeTold_53 : decode cX11_judgeTold 53 = .ok (.getfield 38, 3) := by decide +kernel
theorem dX11_judgeTold_56 : decode cX11_judgeTold 56 = .ok (.getfield 371, 3) := by decide +kernel
theorem dX11_judgeTold_59 : decode cX11_judgeTold 59 = .ok (.iload_n 2, 1) := by decide +kernel
theorem dX11_judgeTold_60 : decode cX11_judgeTold 60 = .ok (.iaload, 1) := by decide +kernel
theorem dX11_judgeTold_61 : decode cX11_judgeTold 61 = .ok (.invokevirtual 210, 3) := by decide +kernel
theorem dX11_judgeTold_64 : decode cX11_judgeTold 64 = .ok (.pop, 1) := by decide +kernel
theorem dX11_judgeTold_65 : decode cX11_judgeTold 65 = .ok (.goto 38, 3) := by decide +kernel
theorem dX11_judgeTold_68 : decode cX11_judgeTold 68 = .ok (.aload_n 0, 1) := by decide +kernel
theorem dX11_judgeTold_69 : decode cX11_judgeTold 69 = .ok (.getfield 63, 3) := by decide +kernel
theorem dX11_judgeTold_72 : decode cX11_judgeTold 72 = .ok (.aload_n 0, 1) := by decide +kernel
theorem dX11_judgeTold_73 : decode cX11_judgeTold 73 = .ok (.getfield 28, 3) := by decide +kernel
theorem dX11_judgeTold_76 : decode cX11_judgeTold 76 = .ok (.invokevirtual 213, 3) := by decide +kernel
theorem dX11_judgeTold_79 : decode cX11_judgeTold 79 = .ok (.ifCond .eq 17, 3) := by decide +kernel
theorem dX11_judgeTold_82 : decode cX11_judgeTold 82 = .ok (.aload_n 0, 1) := by decide +kernel
theorem dX11_judgeTold_83 : decode cX11_judgeTold 83 = .ok (.getfield 63, 3) := by decide +kernel
theorem dX11_judgeTold_86 : decode cX11_judgeTold 86 = .ok (.aload_n 0, 1) := by decide +kernel
theorem dX11_judgeTold_87 : decode cX11_judgeTold 87 = .ok (.getfield 28, 3) := by decide +kernel
theorem dX11_judgeTold_90 : decode cX11_judgeTold 90 = .ok (.invokevirtual 217, 3) := by decide +kernel
theorem dX11_judgeTold_93 : decode cX11_judgeTold 93 = .ok (.goto 10, 3) := by decide +kernel
theorem dX11_judgeTold_96 : decode cX11_judgeTold 96 = .ok (.iload_n 1, 1) := by decide +kernel
theorem dX11_judgeTold_97 : decode cX11_judgeTold 97 = .ok (.iconst (-1), 1) := by decide +kernel
theorem dX11_judgeTold_98 : decode cX11_judgeTold 98 = .ok (.if_icmp .ne 5, 3) := by decide +kernel
theorem dX11_judgeTold_101 : decode cX11_judgeTold 101 = .ok (.iload_n 2, 1) := by decide +kernel
theorem dX11_judgeTold_102 : decode cX11_judgeTold 102 = .ok (.istore_n 1, 1) := by decide +kernel
theorem dX11_judgeTold_103 : decode cX11_judgeTold 103 = .ok (.iinc 2 1, 3) := by decide +kernel
theorem dX11_judgeTold_106 : decode cX11_judgeTold 106 = .ok (.goto (-91), 3) := by decide +kernel
theorem dX11_judgeTold_109 : decode cX11_judgeTold 109 = .ok (.iload_n 1, 1) := by decide +kernel
theorem dX11_judgeTold_110 : decode cX11_judgeTold 110 = .ok (.ireturn, 1) := by decide +kernel
theorem dX11_goesByRule_0 : decode cX11_goesByRule 0 = .ok (.aload_n 0, 1) := by decide +kernel
theorem dX11_goesByRule_1 : decode cX11_goesByRule 1 = .ok (.getfield 63, 3) := by decide +kernel
theorem dX11_goesByRule_4 : decode cX11_goesByRule 4 = .ok (.aload_n 0, 1) := by decide +kernel
theorem dX11_goesByRule_5 : decode cX11_goesByRule 5 = .ok (.getfield 28, 3) := by decide +kernel
theorem dX11_goesByRule_8 : decode cX11_goesByRule 8 = .ok (.invokevirtual 367, 3) := by decide +kernel
theorem dX11_goesByRule_11 : decode cX11_goesByRule 11 = .ok (.iconst 0, 1) := by decide +kernel
theorem dX11_goesByRule_12 : decode cX11_goesByRule 12 = .ok (.istore_n 2, 1) := by decide +kernel
theorem dX11_goesByRule_13 : decode cX11_goesByRule 13 = .ok (.iload_n 2, 1) := by decide +kernel
theorem dX11_goesByRule_14 : decode cX11_goesByRule 14 = .ok (.aload_n 0, 1) := by decide +kernel
theorem dX11_goesByRule_15 : decode cX11_goesByRule 15 = .ok (.getfield 28, 3) := by decide +kernel
theorem dX11_goesByRule_18 : decode cX11_goesByRule 18 = .ok (.getfield 239, 3) := by decide +kernel
theorem dX11_goesByRule_21 : decode cX11_goesByRule 21 = .ok (.if_icmp .ge 68, 3) := by decide +kernel
theorem dX11_goesByRule_24 : decode cX11_goesByRule 24 = .ok (.aload_n 0, 1) := by decide +kernel
theorem dX11_goesByRule_25 : decode cX11_goesByRule 25 = .ok (.getfield 63, 3) := by decide +kernel
theorem dX11_goesByRule_28 : decode cX11_goesByRule 28 = .ok (.aload_n 0, 1) := by decide +kernel
theorem dX11_goesByRule_29 : decode cX11_goesByRule 29 = .ok (.getfield 28, 3) := by decide +kernel
theorem dX11_goesByRule_32 : decode cX11_goesByRule 32 = .ok (.iload_n 1, 1) := by decide +kernel
theorem dX11_goesByRule_33 : decode cX11_goesByRule 33 = .ok (.invokevirtual 372, 3) := by decide +kernel
theorem dX11_goesByRule_36 : decode cX11_goesByRule 36 = .ok (.aload_n 0, 1) := by decide +kernel
theorem dX11_goesByRule_37 : decode cX11_goesByRule 37 = .ok (.getfield 63, 3) := by decide +kernel
theorem dX11_goesByRule_40 : decode cX11_goesByRule 40 = .ok (.aload_n 0, 1) := by decide +kernel
theorem dX11_goesByRule_41 : decode cX11_goesByRule 41 = .ok (.getfield 28, 3) := by decide +kernel
theorem dX11_goesByRule_44 : decode cX11_goesByRule 44 = .ok (.invokevirtual 213, 3) := by decide +kernel
theorem dX11_goesByRule_47 : decode cX11_goesByRule 47 = .ok (.ifCond .ne 5, 3) := by decide +kernel
theorem dX11_goesByRule_50 : decode cX11_goesByRule 50 = .ok (.iconst 0, 1) := by decide +kernel
theorem dX11_goesByRule_51 : decode cX11_goesByRule 51 = .ok (.ireturn, 1) := by decide +kernel
theorem dX11_goesByRule_52 : decode cX11_goesByRule 52 = .ok (.aload_n 0, 1) := by decide +kernel
theorem dX11_goesByRule_53 : decode cX11_goesByRule 53 = .ok (.getfield 67, 3) := by decide +kernel
theorem dX11_goesByRule_56 : decode cX11_goesByRule 56 = .ok (.iload_n 2, 1) := by decide +kernel
theorem dX11_goesByRule_57 : decode cX11_goesByRule 57 = .ok (.aload_n 0, 1) := by decide +kernel
theorem dX11_goesByRule_58 : decode cX11_goesByRule 58 = .ok (.getfield 28, 3) := by decide +kernel
theorem dX11_goesByRule_61 : decode cX11_goesByRule 61 = .ok (.aload_n 0, 1) := by decide +kernel
theorem dX11_goesByRule_62 : decode cX11_goesByRule 62 = .ok (.getfield 63, 3) := by decide +kernel
theorem dX11_goesByRule_65 : decode cX11_goesByRule 65 = .ok (.getfield 170, 3) := by decide +kernel
theorem dX11_goesByRule_68 : decode cX11_goesByRule 68 = .ok (.invokevirtual 375, 3) := by decide +kernel
theorem dX11_goesByRule_71 : decode cX11_goesByRule 71 = .ok (.iastore, 1) := by decide +kernel
theorem dX11_goesByRule_72 : decode cX11_goesByRule 72 = .ok (.aload_n 0, 1) := by decide +kernel
theorem dX11_goesByRule_73 : decode cX11_goesByRule 73 = .ok (.getfield 63, 3) := by decide +kernel
theorem dX11_goesByRule_76 : decode cX11_goesByRule 76 = .ok (.aload_n 0, 1) := by decide +kernel
theorem dX11_goesByRule_77 : decode cX11_goesByRule 77 = .ok (.getfield 28, 3) := by decide +kernel
theorem dX11_goesByRule_80 : decode cX11_goesByRule 80 = .ok (.invokevirtual 217, 3) := by decide +kernel
theorem dX11_goesByRule_83 : decode cX11_goesByRule 83 = .ok (.iinc 2 1, 3) := by decide +kernel
theorem dX11_goesByRule_86 : decode cX11_goesByRule 86 = .ok (.goto (-73), 3) := by decide +kernel
theorem dX11_goesByRule_89 : decode cX11_goesByRule 89 = .ok (.iconst 1, 1) := by decide +kernel
theorem dX11_goesByRule_90 : decode cX11_goesByRule 90 = .ok (.ireturn, 1) := by decide +kernel
theorem dX11_countFitting_0 : decode cX11_countFitting 0 = .ok (.iconst 1, 1) := by decide +kernel
theorem dX11_countFitting_1 : decode cX11_countFitting 1 = .ok (.istore_n 1, 1) := by decide +kernel
theorem dX11_countFitting_2 : decode cX11_countFitting 2 = .ok (.iconst 0, 1) := by decide +kernel
theorem dX11_countFitting_3 : decode cX11_countFitting 3 = .ok (.istore_n 2, 1) := by decide +kernel
theorem dX11_countFitting_4 : decode cX11_countFitting 4 = .ok (.iload_n 2, 1) := by decide +kernel
theorem dX11_countFitting_5 : decode cX11_countFitting 5 = .ok (.aload_n 0, 1) := by decide +kernel
theorem dX11_countFitting_6 : decode cX11_countFitting 6 = .ok (.getfield 28, 3) := by decide +kernel
theorem dX11_countFitting_9 : decode cX11_countFitting 9 = .ok (.getfield 239, 3) := by decide +kernel
theorem dX11_countFitting_12 : decode cX11_countFitting 12 = .ok (.if_icmp .ge 92, 3) := by decide +kernel
theorem dX11_countFitting_15 : decode cX11_countFitting 15 = .ok (.iconst 0, 1) := by decide +kernel
theorem dX11_countFitting_16 : decode cX11_countFitting 16 = .ok (.istore_n 3, 1) := by decide +kernel
theorem dX11_countFitting_17 : decode cX11_countFitting 17 = .ok (.iconst 0, 1) := by decide +kernel
theorem dX11_countFitting_18 : decode cX11_countFitting 18 = .ok (.istore 4, 2) := by decide +kernel
theorem dX11_countFitting_20 : decode cX11_countFitting 20 = .ok (.iload 4, 2) := by decide +kernel
theorem dX11_countFitting_22 : decode cX11_countFitting 22 = .ok (.aload_n 0, 1) := by decide +kernel
theorem dX11_countFitting_23 : decode cX11_countFitting 23 = .ok (.getfield 28, 3) := by decide +kernel
theorem dX11_countFitting_26 : decode cX11_countFitting 26 = .ok (.getfield 201, 3) := by decide +kernel
theorem dX11_countFitting_29 : decode cX11_countFitting 29 = .ok (.if_icmp .ge 55, 3) := by decide +kernel
theorem dX11_countFitting_32 : decode cX11_countFitting 32 = .ok (.aload_n 0, 1) := by decide +kernel
theorem dX11_countFitting_33 : decode cX11_countFitting 33 = .ok (.getfield 28, 3) := by decide +kernel
theorem dX11_countFitting_36 : decode cX11_countFitting 36 = .ok (.aload_n 0, 1) := by decide +kernel
theorem dX11_countFitting_37 : decode cX11_countFitting 37 = .ok (.getfield 28, 3) := by decide +kernel
theorem dX11_countFitting_40 : decode cX11_countFitting 40 = .ok (.getfield 379, 3) := by decide +kernel
theorem dX11_countFitting_43 : decode cX11_countFitting 43 = .ok (.iload 4, 2) := by decide +kernel
theorem dX11_countFitting_45 : decode cX11_countFitting 45 = .ok (.iaload, 1) := by decide +kernel
theorem dX11_countFitting_46 : decode cX11_countFitting 46 = .ok (.aload_n 0, 1) := by decide +kernel
theorem dX11_countFitting_47 : decode cX11_countFitting 47 = .ok (.getfield 74, 3) := by decide +kernel
theorem dX11_countFitting_50 : decode cX11_countFitting 50 = .ok (.invokevirtual 189, 3) := by decide +kernel
theorem dX11_countFitting_53 : decode cX11_countFitting 53 = .ok (.ifCond .eq 25, 3) := by decide +kernel
theorem dX11_countFitting_56 : decode cX11_countFitting 56 = .ok (.aload_n 0, 1) := by decide +kernel
theorem dX11_countFitting_57 : decode cX11_countFitting 57 = .ok (.getfield 48, 3) := by decide +kernel
theorem dX11_countFitting_60 : decode cX11_countFitting 60 = .ok (.aload_n 0, 1) := by decide +kernel
theorem dX11_countFitting_61 : decode cX11_countFitting 61 = .ok (.getfield 74, 3) := by decide +kernel
theorem dX11_countFitting_64 : decode cX11_countFitting 64 = .ok (.iload_n 2, 1) := by decide +kernel
theorem dX11_countFitting_65 : decode cX11_countFitting 65 = .ok (.invokevirtual 380, 3) := by decide +kernel
theorem dX11_countFitting_68 : decode cX11_countFitting 68 = .ok (.ifCond .eq 10, 3) := by decide +kernel
theorem dX11_countFitting_71 : decode cX11_countFitting 71 = .ok (.iload_n 3, 1) := by decide +kernel
theorem dX11_countFitting_72 : decode cX11_countFitting 72 = .ok (.iconst 1, 1) := by decide +kernel
theorem dX11_countFitting_73 : decode cX11_countFitting 73 = .ok (.iload 4, 2) := by decide +kernel
theorem dX11_countFitting_75 : decode cX11_countFitting 75 = .ok (.ishl, 1) := by decide +kernel
theorem dX11_countFitting_76 : decode cX11_countFitting 76 = .ok (.ior, 1) := by decide +kernel
theorem dX11_countFitting_77 : decode cX11_countFitting 77 = .ok (.istore_n 3, 1) := by decide +kernel
theorem dX11_countFitting_78 : decode cX11_countFitting 78 = .ok (.iinc 4 1, 3) := by decide +kernel
theorem dX11_countFitting_81 : decode cX11_countFitting 81 = .ok (.goto (-61), 3) := by decide +kernel
theorem dX11_countFitting_84 : decode cX11_countFitting 84 = .ok (.aload_n 0, 1) := by decide +kernel
theorem dX11_countFitting_85 : decode cX11_countFitting 85 = .ok (.getfield 71, 3) := by decide +kernel
theorem dX11_countFitting_88 : decode cX11_countFitting 88 = .ok (.iload_n 2, 1) := by decide +kernel
theorem dX11_countFitting_89 : decode cX11_countFitting 89 = .ok (.iload_n 3, 1) := by decide +kernel
theorem dX11_countFitting_90 : decode cX11_countFitting 90 = .ok (.iastore, 1) := by decide +kernel
theorem dX11_countFitting_91 : decode cX11_countFitting 91 = .ok (.iload_n 1, 1) := by decide +kernel
theorem dX11_countFitting_92 : decode cX11_countFitting 92 = .ok (.iload_n 3, 1) := by decide +kernel
theorem dX11_countFitting_93 : decode cX11_countFitting 93 = .ok (.invokestatic 384, 3) := by decide +kernel
theorem dX11_countFitting_96 : decode cX11_countFitting 96 = .ok (.imul, 1) := by decide +kernel
theorem dX11_countFitting_97 : decode cX11_countFitting 97 = .ok (.istore_n 1, 1) := by decide +kernel
theorem dX11_countFitting_98 : decode cX11_countFitting 98 = .ok (.iinc 2 1, 3) := by decide +kernel
theorem dX11_countFitting_101 : decode cX11_countFitting 101 = .ok (.goto (-97), 3) := by decide +kernel
theorem dX11_countFitting_104 : decode cX11_countFitting 104 = .ok (.iload_n 1, 1) := by decide +kernel
theorem dX11_countFitting_105 : decode cX11_countFitting 105 = .ok (.ireturn, 1) := by decide +kernel
theorem dX11_stopsChanged_0 : decode cX11_stopsChanged 0 = .ok (.iconst 0, 1) := by decide +kernel
theorem dX11_stopsChanged_1 : decode cX11_stopsChanged 1 = .ok (.istore_n 2, 1) := by decide +kernel
theorem dX11_stopsChanged_2 : decode cX11_stopsChanged 2 = .ok (.iconst 0, 1) := by decide +kernel
theorem dX11_stopsChanged_3 : decode cX11_stopsChanged 3 = .ok (.istore_n 3, 1) := by decide +kernel
theorem dX11_stopsChanged_4 : decode cX11_stopsChanged 4 = .ok (.iload_n 3, 1) := by decide +kernel
theorem dX11_stopsChanged_5 : decode cX11_stopsChanged 5 = .ok (.iconst 1, 1) := by decide +kernel
theorem dX11_stopsChanged_6 : decode cX11_stopsChanged 6 = .ok (.iadd, 1) := by decide +kernel
theorem dX11_stopsChanged_7 : decode cX11_stopsChanged 7 = .ok (.aload_n 0, 1) := by decide +kernel
theorem dX11_stopsChanged_8 : decode cX11_stopsChanged 8 = .ok (.getfield 28, 3) := by decide +kernel
theorem dX11_stopsChanged_11 : decode cX11_stopsChanged 11 = .ok (.getfield 239, 3) := by decide +kernel
theorem dX11_stopsChanged_14 : decode cX11_stopsChanged 14 = .ok (.if_icmp .ge 88, 3) := by decide +kernel
theorem dX11_stopsChanged_17 : decode cX11_stopsChanged 17 = .ok (.aload_n 0, 1) := by decide +kernel
theorem dX11_stopsChanged_18 : decode cX11_stopsChanged 18 = .ok (.getfield 71, 3) := by decide +kernel
theorem dX11_stopsChanged_21 : decode cX11_stopsChanged 21 = .ok (.iload_n 3, 1) := by decide +kernel
theorem dX11_stopsChanged_22 : decode cX11_stopsChanged 22 = .ok (.iaload, 1) := by decide +kernel
theorem dX11_stopsChanged_23 : decode cX11_stopsChanged 23 = .ok (.istore 4, 2) := by decide +kernel
theorem dX11_stopsChanged_25 : decode cX11_stopsChanged 25 = .ok (.aload_n 0, 1) := by decide +kernel
theorem dX11_stopsChanged_26 : decode cX11_stopsChanged 26 = .ok (.getfield 71, 3) := by decide +kernel
theorem dX11_stopsChanged_29 : decode cX11_stopsChanged 29 = .ok (.iload_n 3, 1) := by decide +kernel
theorem dX11_stopsChanged_30 : decode cX11_stopsChanged 30 = .ok (.iconst 1, 1) := by decide +kernel
theorem dX11_stopsChanged_31 : decode cX11_stopsChanged 31 = .ok (.iadd, 1) := by decide +kernel
theorem dX11_stopsChanged_32 : decode cX11_stopsChanged 32 = .ok (.iaload, 1) := by decide +kernel
theorem dX11_stopsChanged_33 : decode cX11_stopsChanged 33 = .ok (.istore 5, 2) := by decide +kernel
theorem dX11_stopsChanged_35 : decode cX11_stopsChanged 35 = .ok (.iload 4, 2) := by decide +kernel
theorem dX11_stopsChanged_37 : decode cX11_stopsChanged 37 = .ok (.iload 5, 2) := by decide +kernel
theorem dX11_stopsChanged_39 : decode cX11_stopsChanged 39 = .ok (.iand, 1) := by decide +kernel
theorem dX11_stopsChanged_40 : decode cX11_stopsChanged 40 = .ok (.ifCond .ne 7, 3) := by decide +kernel
theorem dX11_stopsChanged_43 : decode cX11_stopsChanged 43 = .ok (.iconst 1, 1) := by decide +kernel
theorem dX11_stopsChanged_44 : decode cX11_stopsChanged 44 = .ok (.goto 4, 3) := by decide +kernel
theorem dX11_stopsChanged_47 : decode cX11_stopsChanged 47 = .ok (.iconst 0, 1) := by decide +kernel
theorem dX11_stopsChanged_48 : decode cX11_stopsChanged 48 = .ok (.istore 6, 2) := by decide +kernel
theorem dX11_stopsChanged_50 : decode cX11_stopsChanged 50 = .ok (.iload 4, 2) := by decide +kernel
theorem dX11_stopsChanged_52 : decode cX11_stopsChanged 52 = .ok (.iload 5, 2) := by decide +kernel
theorem dX11_stopsChanged_54 : decode cX11_stopsChanged 54 = .ok (.if_icmp .ne 16, 3) := by decide +kernel
theorem dX11_stopsChanged_57 : decode cX11_stopsChanged 57 = .ok (.iload 4, 2) := by decide +kernel
theorem dX11_stopsChanged_59 : decode cX11_stopsChanged 59 = .ok (.invokestatic 384, 3) := by decide +kernel
theorem dX11_stopsChanged_62 : decode cX11_stopsChanged 62 = .ok (.iconst 1, 1) := by decide +kernel
theorem dX11_stopsChanged_63 : decode cX11_stopsChanged 63 = .ok (.if_icmp .ne 7, 3) := by decide +kernel
theorem dX11_stopsChanged_66 : decode cX11_stopsChanged 66 = .ok (.iconst 1, 1) := by decide +kernel
theorem dX11_stopsChanged_67 : decode cX11_stopsChanged 67 = .ok (.goto 4, 3) := by decide +kernel
theorem dX11_stopsChanged_70 : decode cX11_stopsChanged 70 = .ok (.iconst 0, 1) := by decide +kernel
theorem dX11_stopsChanged_71 : decode cX11_stopsChanged 71 = .ok (.istore 7, 2) := by decide +kernel
theorem dX11_stopsChanged_73 : decode cX11_stopsChanged 73 = .ok (.iload_n 1, 1) := by decide +kernel
theorem dX11_stopsChanged_74 : decode cX11_stopsChanged 74 = .ok (.ifCond .eq 11, 3) := by decide +kernel
theorem dX11_stopsChanged_77 : decode cX11_stopsChanged 77 = .ok (.iload 6, 2) := by decide +kernel
theorem dX11_stopsChanged_79 : decode cX11_stopsChanged 79 = .ok (.ifCond .eq 17, 3) := by decide +kernel
theorem dX11_stopsChanged_82 : decode cX11_stopsChanged 82 = .ok (.goto 8, 3) := by decide +kernel
theorem dX11_stopsChanged_85 : decode cX11_stopsChanged 85 = .ok (.iload 7, 2) := by decide +kernel
theorem dX11_stopsChanged_87 : decode cX11_stopsChanged 87 = .ok (.ifCond .eq 9, 3) := by decide +kernel
theorem dX11_stopsChanged_90 : decode cX11_stopsChanged 90 = .ok (.iload_n 2, 1) := by decide +kernel
theorem dX11_stopsChanged_91 : decode cX11_stopsChanged 91 = .ok (.iconst 1, 1) := by decide +kernel
theorem dX11_stopsChanged_92 : decode cX11_stopsChanged 92 = .ok (.iload_n 3, 1) := by decide +kernel
theorem dX11_stopsChanged_93 : decode cX11_stopsChanged 93 = .ok (.ishl, 1) := by decide +kernel
theorem dX11_stopsChanged_94 : decode cX11_stopsChanged 94 = .ok (.ior, 1) := by decide +kernel
theorem dX11_stopsChanged_95 : decode cX11_stopsChanged 95 = .ok (.istore_n 2, 1) := by decide +kernel
theorem dX11_stopsChanged_96 : decode cX11_stopsChanged 96 = .ok (.iinc 3 1, 3) := by decide +kernel
theorem dX11_stopsChanged_99 : decode cX11_stopsChanged 99 = .ok (.goto (-95), 3) := by decide +kernel
theorem dX11_stopsChanged_102 : decode cX11_stopsChanged 102 = .ok (.iload_n 2, 1) := by decide +kernel
theorem dX11_stopsChanged_103 : decode cX11_stopsChanged 103 = .ok (.ireturn, 1) := by decide +kernel
theorem dX11_spreadOf_0 : decode cX11_spreadOf 0 = .ok (.ldc_w 387, 3) := by decide +kernel
theorem dX11_spreadOf_3 : decode cX11_spreadOf 3 = .ok (.istore_n 3, 1) := by decide +kernel
theorem dX11_spreadOf_4 : decode cX11_spreadOf 4 = .ok (.ldc_w 388, 3) := by decide +kernel
theorem dX11_spreadOf_7 : decode cX11_spreadOf 7 = .ok (.istore 4, 2) := by decide +kernel
theorem dX11_spreadOf_9 : decode cX11_spreadOf 9 = .ok (.iload_n 1, 1) := by decide +kernel
theorem dX11_spreadOf_10 : decode cX11_spreadOf 10 = .ok (.istore 5, 2) := by decide +kernel
theorem dX11_spreadOf_12 : decode cX11_spreadOf 12 = .ok (.iload 5, 2) := by decide +kernel
theorem dX11_spreadOf_14 : decode cX11_spreadOf 14 = .ok (.iload_n 1, 1) := by decide +kernel
theorem dX11_spreadOf_15 : decode cX11_spreadOf 15 = .ok (.iload_n 2, 1) := by decide +kernel
theorem dX11_spreadOf_16 : decode cX11_spreadOf 16 = .ok (.iadd, 1) := by decide +kernel
theorem dX11_spreadOf_17 : decode cX11_spreadOf 17 = .ok (.if_icmp .ge 36, 3) := by decide +kernel
theorem dX11_spreadOf_20 : decode cX11_spreadOf 20 = .ok (.iload 5, 2) := by decide +kernel
theorem dX11_spreadOf_22 : decode cX11_spreadOf 22 = .ok (.aload_n 0, 1) := by decide +kernel
theorem dX11_spreadOf_23 : decode cX11_spreadOf 23 = .ok (.arraylength, 1) := by decide +kernel
theorem dX11_spreadOf_24 : decode cX11_spreadOf 24 = .ok (.if_icmp .ge 29, 3) := by decide +kernel
theorem dX11_spreadOf_27 : decode cX11_spreadOf 27 = .ok (.iload_n 3, 1) := by decide +kernel
theorem dX11_spreadOf_28 : decode cX11_spreadOf 28 = .ok (.aload_n 0, 1) := by decide +kernel
theorem dX11_spreadOf_29 : decode cX11_spreadOf 29 = .ok (.iload 5, 2) := by decide +kernel
theorem dX11_spreadOf_31 : decode cX11_spreadOf 31 = .ok (.iaload, 1) := by decide +kernel
theorem dX11_spreadOf_32 : decode cX11_spreadOf 32 = .ok (.invokestatic 362, 3) := by decide +kernel
theorem dX11_spreadOf_35 : decode cX11_spreadOf 35 = .ok (.istore_n 3, 1) := by decide +kernel
theorem dX11_spreadOf_36 : decode cX11_spreadOf 36 = .ok (.iload 4, 2) := by decide +kernel
theorem dX11_spreadOf_38 : decode cX11_spreadOf 38 = .ok (.aload_n 0, 1) := by decide +kernel
theorem dX11_spreadOf_39 : decode cX11_spreadOf 39 = .ok (.iload 5, 2) := by decide +kernel
theorem dX11_spreadOf_41 : decode cX11_spreadOf 41 = .ok (.iaload, 1) := by decide +kernel
theorem dX11_spreadOf_42 : decode cX11_spreadOf 42 = .ok (.invokestatic 389, 3) := by decide +kernel
theorem dX11_spreadOf_45 : decode cX11_spreadOf 45 = .ok (.istore 4, 2) := by decide +kernel
theorem dX11_spreadOf_47 : decode cX11_spreadOf 47 = .ok (.iinc 5 1, 3) := by decide +kernel
theorem dX11_spreadOf_50 : decode cX11_spreadOf 50 = .ok (.goto (-38), 3) := by decide +kernel
theorem dX11_spreadOf_53 : decode cX11_spreadOf 53 = .ok (.iload_n 3, 1) := by decide +kernel
theorem dX11_spreadOf_54 : decode cX11_spreadOf 54 = .ok (.iload 4, 2) := by decide +kernel
theorem dX11_spreadOf_56 : decode cX11_spreadOf 56 = .ok (.if_icmp .le 7, 3) := by decide +kernel
theorem dX11_spreadOf_59 : decode cX11_spreadOf 59 = .ok (.iconst 0, 1) := by decide +kernel
theorem dX11_spreadOf_60 : decode cX11_spreadOf 60 = .ok (.goto 7, 3) := by decide +kernel
theorem dX11_spreadOf_63 : decode cX11_spreadOf 63 = .ok (.iload 4, 2) := by decide +kernel
theorem dX11_spreadOf_65 : decode cX11_spreadOf 65 = .ok (.iload_n 3, 1) := by decide +kernel
theorem dX11_spreadOf_66 : decode cX11_spreadOf 66 = .ok (.isub, 1) := by decide +kernel
theorem dX11_spreadOf_67 : decode cX11_spreadOf 67 = .ok (.ireturn, 1) := by decide +kernel
theorem dX12_thrown_0 : decode cX12_thrown 0 = .ok (.aload_n 0, 1) := by decide +kernel
theorem dX12_thrown_1 : decode cX12_thrown 1 = .ok (.getfield 1, 3) := by decide +kernel
theorem dX12_thrown_4 : decode cX12_thrown 4 = .ok (.ireturn, 1) := by decide +kernel
theorem dX12_feed_0 : decode cX12_feed 0 = .ok (.aload_n 0, 1) := by decide +kernel
theorem dX12_feed_1 : decode cX12_feed 1 = .ok (.iconst 0, 1) := by decide +kernel
theorem dX12_feed_2 : decode cX12_feed 2 = .ok (.putfield 1, 3) := by decide +kernel
theorem dX12_feed_5 : decode cX12_feed 5 = .ok (.aload_n 0, 1) := by decide +kernel
theorem dX12_feed_6 : decode cX12_feed 6 = .ok (.lload_n 1, 1) := by decide +kernel
theorem dX12_feed_7 : decode cX12_feed 7 = .ok (.invokevirtual 7, 3) := by decide +kernel
theorem dX12_feed_10 : decode cX12_feed 10 = .ok (.aload_n 0, 1) := by decide +kernel
theorem dX12_feed_11 : decode cX12_feed 11 = .ok (.lload_n 3, 1) := by decide +kernel
theorem dX12_feed_12 : decode cX12_feed 12 = .ok (.invokevirtual 7, 3) := by decide +kernel
theorem dX12_feed_15 : decode cX12_feed 15 = .ok (.aload_n 0, 1) := by decide +kernel
theorem dX12_feed_16 : decode cX12_feed 16 = .ok (.lload 5, 2) := by decide +kernel
theorem dX12_feed_18 : decode cX12_feed 18 = .ok (.invokevirtual 7, 3) := by decide +kernel
theorem dX12_feed_21 : decode cX12_feed 21 = .ok (.aload_n 0, 1) := by decide +kernel
theorem dX12_feed_22 : decode cX12_feed 22 = .ok (.getfield 11, 3) := by decide +kernel
theorem dX12_feed_25 : decode cX12_feed 25 = .ok (.ireturn, 1) := by decide +kernel
theorem dX12_lay_0 : decode cX12_lay 0 = .ok (.bipush 56, 2) := by decide +kernel
theorem dX12_lay_2 : decode cX12_lay 2 = .ok (.istore_n 3, 1) := by decide +kernel
theorem dX12_lay_3 : decode cX12_lay 3 = .ok (.iload_n 3, 1) := by decide +kernel
theorem dX12_lay_4 : decode cX12_lay 4 = .ok (.ifCond .lt 71, 3) := by decide +kernel
theorem dX12_lay_7 : decode cX12_lay 7 = .ok (.lload_n 1, 1) := by decide +kernel
theorem dX12_lay_8 : decode cX12_lay 8 = .ok (.iload_n 3, 1) := by decide +kernel
theorem dX12_lay_9 : decode cX12_lay 9 = .ok (.lshr, 1) := by decide +kernel
theorem dX12_lay_10 : decode cX12_lay 10 = .ok (.l2i, 1) := by decide +kernel
theorem dX12_lay_11 : decode cX12_lay 11 = .ok (.sipush 255, 3) := by decide +kernel
theorem dX12_lay_14 : decode cX12_lay 14 = .ok (.iand, 1) := by decide +kernel
theorem dX12_lay_15 : decode cX12_lay 15 = .ok (.istore 4, 2) := by decide +kernel
theorem dX12_lay_17 : decode cX12_lay 17 = .ok (.iload 4, 2) := by decide +kernel
theorem dX12_lay_19 : decode cX12_lay 19 = .ok (.bipush 10, 2) := by decide +kernel
theorem dX12_lay_21 : decode cX12_lay 21 = .ok (.if_icmp .eq 17, 3) := by decide +kernel
theorem dX12_lay_24 : decode cX12_lay 24 = .ok (.iload 4, 2) := by decide +kernel
theorem dX12_lay_26 : decode cX12_lay 26 = .ok (.bipush 32, 2) := by decide +kernel
theorem dX12_lay_28 : decode cX12_lay 28 = .ok (.if_icmp .lt 41, 3) := by decide +kernel
theorem dX12_lay_31 : decode cX12_lay 31 = .ok (.iload 4, 2) := by decide +kernel
theorem dX12_lay_33 : decode cX12_lay 33 = .ok (.bipush 126, 2) := by decide +kernel
theorem dX12_lay_35 : decode cX12_lay 35 = .ok (.if_icmp .gt 34, 3) := by decide +kernel
theorem dX12_lay_38 : decode cX12_lay 38 = .ok (.aload_n 0, 1) := by decide +kernel
theorem dX12_lay_39 : decode cX12_lay 39 = .ok (.getfield 11, 3) := by decide +kernel
theorem dX12_lay_42 : decode cX12_lay 42 = .ok (.sipush 1000, 3) := by decide +kernel
theorem dX12_lay_45 : decode cX12_lay 45 = .ok (.if_icmp .ge 24, 3) := by decide +kernel
theorem dX12_lay_48 : decode cX12_lay 48 = .ok (.aload_n 0, 1) := by decide +kernel
theorem dX12_lay_49 : decode cX12_lay 49 = .ok (.getfield 14, 3) := by decide +kernel
theorem dX12_lay_52 : decode cX12_lay 52 = .ok (.aload_n 0, 1) := by decide +kernel
theorem dX12_lay_53 : decode cX12_lay 53 = .ok (.getfield 11, 3) := by decide +kernel
theorem dX12_lay_56 : decode cX12_lay 56 = .ok (.iload 4, 2) := by decide +kernel
theorem dX12_lay_58 : decode cX12_lay 58 = .ok (.iastore, 1) := by decide +kernel
theorem dX12_lay_59 : decode cX12_lay 59 = .ok (.aload_n 0, 1) := by decide +kernel
theorem dX12_lay_60 : decode cX12_lay 60 = .ok (.dup, 1) := by decide +kernel
theorem dX12_lay_61 : decode cX12_lay 61 = .ok (.getfield 11, 3) := by decide +kernel
theorem dX12_lay_64 : decode cX12_lay 64 = .ok (.iconst 1, 1) := by decide +kernel
theorem dX12_lay_65 : decode cX12_lay 65 = .ok (.iadd, 1) := by decide +kernel
theorem dX12_lay_66 : decode cX12_lay 66 = .ok (.putfield 11, 3) := by decide +kernel
theorem dX12_lay_69 : decode cX12_lay 69 = .ok (.iinc 3 (-8), 3) := by decide +kernel
theorem dX12_lay_72 : decode cX12_lay 72 = .ok (.goto (-69), 3) := by decide +kernel
theorem dX12_lay_75 : decode cX12_lay 75 = .ok (.return_, 1) := by decide +kernel
theorem dX12_init_0 : decode cX12_init 0 = .ok (.aload_n 0, 1) := by decide +kernel
theorem dX12_init_1 : decode cX12_init 1 = .ok (.invokespecial 18, 3) := by decide +kernel
theorem dX12_init_4 : decode cX12_init 4 = .ok (.aload_n 0, 1) := by decide +kernel
theorem dX12_init_5 : decode cX12_init 5 = .ok (.sipush 1000, 3) := by decide +kernel
theorem dX12_init_8 : decode cX12_init 8 = .ok (.newarray .int, 2) := by decide +kernel
theorem dX12_init_10 : decode cX12_init 10 = .ok (.putfield 14, 3) := by decide +kernel
theorem dX12_init_13 : decode cX12_init 13 = .ok (.aload_n 0, 1) := by decide +kernel
theorem dX12_init_14 : decode cX12_init 14 = .ok (.sipush 1002, 3) := by decide +kernel
theorem dX12_init_17 : decode cX12_init 17 = .ok (.newarray .int, 2) := by decide +kernel
theorem dX12_init_19 : decode cX12_init 19 = .ok (.putfield 24, 3) := by decide +kernel
theorem dX12_init_22 : decode cX12_init 22 = .ok (.aload_n 0, 1) := by decide +kernel
theorem dX12_init_23 : decode cX12_init 23 = .ok (.sipush 1002, 3) := by decide +kernel
theorem dX12_init_26 : decode cX12_init 26 = .ok (.newarray .int, 2) := by decide +kernel
theorem dX12_init_28 : decode cX12_init 28 = .ok (.putfield 27, 3) := by decide +kernel
theorem dX12_init_31 : decode cX12_init 31 = .ok (.aload_n 0, 1) := by decide +kernel
theorem dX12_init_32 : decode cX12_init 32 = .ok (.sipush 1002, 3) := by decide +kernel
theorem dX12_init_35 : decode cX12_init 35 = .ok (.newarray .long, 2) := by decide +kernel
theorem dX12_init_37 : decode cX12_init 37 = .ok (.putfield 30, 3) := by decide +kernel
theorem dX12_init_40 : decode cX12_init 40 = .ok (.aload_n 0, 1) := by decide +kernel
theorem dX12_init_41 : decode cX12_init 41 = .ok (.bipush 30, 2) := by decide +kernel
theorem dX12_init_43 : decode cX12_init 43 = .ok (.newarray .long, 2) := by decide +kernel
theorem dX12_init_45 : decode cX12_init 45 = .ok (.dup, 1) := by decide +kernel
theorem dX12_init_46 : decode cX12_init 46 = .ok (.iconst 0, 1) := by decide +kernel
theorem dX12_init_47 : decode cX12_init 47 = .ok (.ldc2_w 34, 3) := by decide +kernel
theorem dX12_init_50 : decode cX12_init 50 = .ok (.lastore, 1) := by decide +kernel
theorem dX12_init_51 : decode cX12_init 51 = .ok (.dup, 1) := by decide +kernel
theorem dX12_init_52 : decode cX12_init 52 = .ok (.iconst 1, 1) := by decide +kernel
theorem dX12_init_53 : decode cX12_init 53 = .ok (.ldc2_w 36, 3) := by decide +kernel
theorem dX12_init_56 : decode cX12_init 56 = .ok (.lastore, 1) := by decide +kernel
theorem dX12_init_57 : decode cX12_init 57 = .ok (.dup, 1) := by decide +kernel
theorem dX12_init_58 : decode cX12_init 58 = .ok (.iconst 2, 1) := by decide +kernel
theorem dX12_init_59 : decode cX12_init 59 = .ok (.ldc2_w 38, 3) := by decide +kernel
theorem dX12_init_62 : decode cX12_init 62 = .ok (.lastore, 1) := by decide +kernel
theorem dX12_init_63 : decode cX12_init 63 = .ok (.dup, 1) := by decide +kernel
theorem dX12_init_64 : decode cX12_init 64 = .ok (.iconst 3, 1) := by decide +kernel
theorem dX12_init_65 : decode cX12_init 65 = .ok (.ldc2_w 40, 3) := by decide +kernel
theorem dX12_init_68 : decode cX12_init 68 = .ok (.lastore, 1) := by decide +kernel
theorem dX12_init_69 : decode cX12_init 69 = .ok (.dup, 1) := by decide +kernel
