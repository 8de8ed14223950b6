theorem dX12_undo_9 : decode cX12_undo 9 = .ok (.ifCond .ne 5, 3) := by decide +kernel
theorem dX12_undo_12 : decode cX12_undo 12 = .ok (.iconst 0, 1) := by decide +kernel
theorem dX12_undo_13 : decode cX12_undo 13 = .ok (.ireturn, 1) := by decide +kernel
theorem dX12_undo_14 : decode cX12_undo 14 = .ok (.aload_n 0, 1) := by decide +kernel
theorem dX12_undo_15 : decode cX12_undo 15 = .ok (.dup, 1) := by decide +kernel
theorem dX12_undo_16 : decode cX12_undo 16 = .ok (.getfield 361, 3) := by decide +kernel
theorem dX12_undo_19 : decode cX12_undo 19 = .ok (.iconst 1, 1) := by decide +kernel
theorem dX12_undo_20 : decode cX12_undo 20 = .ok (.isub, 1) := by decide +kernel
theorem dX12_undo_21 : decode cX12_undo 21 = .ok (.putfield 361, 3) := by decide +kernel
theorem dX12_undo_24 : decode cX12_undo 24 = .ok (.aload_n 0, 1) := by decide +kernel
theorem dX12_undo_25 : decode cX12_undo 25 = .ok (.bipush 80, 2) := by decide +kernel
theorem dX12_undo_27 : decode cX12_undo 27 = .ok (.iconst 5, 1) := by decide +kernel
theorem dX12_undo_28 : decode cX12_undo 28 = .ok (.aload_n 0, 1) := by decide +kernel
theorem dX12_undo_29 : decode cX12_undo 29 = .ok (.getfield 361, 3) := by decide +kernel
theorem dX12_undo_32 : decode cX12_undo 32 = .ok (.iadd, 1) := by decide +kernel
theorem dX12_undo_33 : decode cX12_undo 33 = .ok (.imul, 1) := by decide +kernel
theorem dX12_undo_34 : decode cX12_undo 34 = .ok (.iconst 0, 1) := by decide +kernel
theorem dX12_undo_35 : decode cX12_undo 35 = .ok (.bipush 13, 2) := by decide +kernel
theorem dX12_undo_37 : decode cX12_undo 37 = .ok (.invokevirtual 364, 3) := by decide +kernel
theorem dX12_undo_40 : decode cX12_undo 40 = .ok (.iconst 1, 1) := by decide +kernel
theorem dX12_undo_41 : decode cX12_undo 41 = .ok (.ireturn, 1) := by decide +kernel
theorem dX12_judged_0 : decode cX12_judged 0 = .ok (.aload_n 0, 1) := by decide +kernel
theorem dX12_judged_1 : decode cX12_judged 1 = .ok (.iconst 0, 1) := by decide +kernel
theorem dX12_judged_2 : decode cX12_judged 2 = .ok (.putfield 1, 3) := by decide +kernel
theorem dX12_judged_5 : decode cX12_judged 5 = .ok (.iload_n 1, 1) := by decide +kernel
theorem dX12_judged_6 : decode cX12_judged 6 = .ok (.iconst (-1), 1) := by decide +kernel
theorem dX12_judged_7 : decode cX12_judged 7 = .ok (.if_icmp .eq 15, 3) := by decide +kernel
theorem dX12_judged_10 : decode cX12_judged 10 = .ok (.aload_n 0, 1) := by decide +kernel
theorem dX12_judged_11 : decode cX12_judged 11 = .ok (.iload_n 1, 1) := by decide +kernel
theorem dX12_judged_12 : decode cX12_judged 12 = .ok (.invokevirtual 387, 3) := by decide +kernel
theorem dX12_judged_15 : decode cX12_judged 15 = .ok (.ifCond .ne 7, 3) := by decide +kernel
theorem dX12_judged_18 : decode cX12_judged 18 = .ok (.ldc_w 421, 3) := by decide +kernel
theorem dX12_judged_21 : decode cX12_judged 21 = .ok (.ireturn, 1) := by decide +kernel
theorem dX12_judged_22 : decode cX12_judged 22 = .ok (.aload_n 0, 1) := by decide +kernel
theorem dX12_judged_23 : decode cX12_judged 23 = .ok (.sipush 1680, 3) := by decide +kernel
theorem dX12_judged_26 : decode cX12_judged 26 = .ok (.invokevirtual 358, 3) := by decide +kernel
theorem dX12_judged_29 : decode cX12_judged 29 = .ok (.iconst (-1), 1) := by decide +kernel
theorem dX12_judged_30 : decode cX12_judged 30 = .ok (.istore_n 2, 1) := by decide +kernel
theorem dX12_judged_31 : decode cX12_judged 31 = .ok (.iconst 0, 1) := by decide +kernel
theorem dX12_judged_32 : decode cX12_judged 32 = .ok (.istore_n 3, 1) := by decide +kernel
theorem dX12_judged_33 : decode cX12_judged 33 = .ok (.iload_n 3, 1) := by decide +kernel
theorem dX12_judged_34 : decode cX12_judged 34 = .ok (.aload_n 0, 1) := by decide +kernel
theorem dX12_judged_35 : decode cX12_judged 35 = .ok (.getfield 118, 3) := by decide +kernel
theorem dX12_judged_38 : decode cX12_judged 38 = .ok (.iconst 0, 1) := by decide +kernel
theorem dX12_judged_39 : decode cX12_judged 39 = .ok (.iaload, 1) := by decide +kernel
theorem dX12_judged_40 : decode cX12_judged 40 = .ok (.if_icmp .ge 115, 3) := by decide +kernel
theorem dX12_judged_43 : decode cX12_judged 43 = .ok (.aload_n 0, 1) := by decide +kernel
theorem dX12_judged_44 : decode cX12_judged 44 = .ok (.getfield 118, 3) := by decide +kernel
theorem dX12_judged_47 : decode cX12_judged 47 = .ok (.iconst 1, 1) := by decide +kernel
theorem dX12_judged_48 : decode cX12_judged 48 = .ok (.iconst 2, 1) := by decide +kernel
theorem dX12_judged_49 : decode cX12_judged 49 = .ok (.iload_n 3, 1) := by decide +kernel
theorem dX12_judged_50 : decode cX12_judged 50 = .ok (.imul, 1) := by decide +kernel
theorem dX12_judged_51 : decode cX12_judged 51 = .ok (.iadd, 1) := by decide +kernel
theorem dX12_judged_52 : decode cX12_judged 52 = .ok (.iaload, 1) := by decide +kernel
theorem dX12_judged_53 : decode cX12_judged 53 = .ok (.ifCond .lt 66, 3) := by decide +kernel
theorem dX12_judged_56 : decode cX12_judged 56 = .ok (.aload_n 0, 1) := by decide +kernel
theorem dX12_judged_57 : decode cX12_judged 57 = .ok (.getfield 130, 3) := by decide +kernel
theorem dX12_judged_60 : decode cX12_judged 60 = .ok (.sipush 1681, 3) := by decide +kernel
theorem dX12_judged_63 : decode cX12_judged 63 = .ok (.aload_n 0, 1) := by decide +kernel
theorem dX12_judged_64 : decode cX12_judged 64 = .ok (.getfield 118, 3) := by decide +kernel
theorem dX12_judged_67 : decode cX12_judged 67 = .ok (.iconst 1, 1) := by decide +kernel
theorem dX12_judged_68 : decode cX12_judged 68 = .ok (.iconst 2, 1) := by decide +kernel
theorem dX12_judged_69 : decode cX12_judged 69 = .ok (.iload_n 3, 1) := by decide +kernel
theorem dX12_judged_70 : decode cX12_judged 70 = .ok (.imul, 1) := by decide +kernel
theorem dX12_judged_71 : decode cX12_judged 71 = .ok (.iadd, 1) := by decide +kernel
theorem dX12_judged_72 : decode cX12_judged 72 = .ok (.iaload, 1) := by decide +kernel
theorem dX12_judged_73 : decode cX12_judged 73 = .ok (.iadd, 1) := by decide +kernel
theorem dX12_judged_74 : decode cX12_judged 74 = .ok (.iaload, 1) := by decide +kernel
theorem dX12_judged_75 : decode cX12_judged 75 = .ok (.aload_n 0, 1) := by decide +kernel
theorem dX12_judged_76 : decode cX12_judged 76 = .ok (.getfield 118, 3) := by decide +kernel
theorem dX12_judged_79 : decode cX12_judged 79 = .ok (.iconst 2, 1) := by decide +kernel
theorem dX12_judged_80 : decode cX12_judged 80 = .ok (.iconst 2, 1) := by decide +kernel
theorem dX12_judged_81 : decode cX12_judged 81 = .ok (.iload_n 3, 1) := by decide +kernel
theorem dX12_judged_82 : decode cX12_judged 82 = .ok (.imul, 1) := by decide +kernel
theorem dX12_judged_83 : decode cX12_judged 83 = .ok (.iadd, 1) := by decide +kernel
theorem dX12_judged_84 : decode cX12_judged 84 = .ok (.iaload, 1) := by decide +kernel
theorem dX12_judged_85 : decode cX12_judged 85 = .ok (.if_icmp .eq 64, 3) := by decide +kernel
theorem dX12_judged_88 : decode cX12_judged 88 = .ok (.aload_n 0, 1) := by decide +kernel
theorem dX12_judged_89 : decode cX12_judged 89 = .ok (.sipush 1680, 3) := by decide +kernel
theorem dX12_judged_92 : decode cX12_judged 92 = .ok (.aload_n 0, 1) := by decide +kernel
theorem dX12_judged_93 : decode cX12_judged 93 = .ok (.getfield 118, 3) := by decide +kernel
theorem dX12_judged_96 : decode cX12_judged 96 = .ok (.iconst 1, 1) := by decide +kernel
theorem dX12_judged_97 : decode cX12_judged 97 = .ok (.iconst 2, 1) := by decide +kernel
theorem dX12_judged_98 : decode cX12_judged 98 = .ok (.iload_n 3, 1) := by decide +kernel
theorem dX12_judged_99 : decode cX12_judged 99 = .ok (.imul, 1) := by decide +kernel
theorem dX12_judged_100 : decode cX12_judged 100 = .ok (.iadd, 1) := by decide +kernel
theorem dX12_judged_101 : decode cX12_judged 101 = .ok (.iaload, 1) := by decide +kernel
theorem dX12_judged_102 : decode cX12_judged 102 = .ok (.aload_n 0, 1) := by decide +kernel
theorem dX12_judged_103 : decode cX12_judged 103 = .ok (.getfield 118, 3) := by decide +kernel
theorem dX12_judged_106 : decode cX12_judged 106 = .ok (.iconst 2, 1) := by decide +kernel
theorem dX12_judged_107 : decode cX12_judged 107 = .ok (.iconst 2, 1) := by decide +kernel
theorem dX12_judged_108 : decode cX12_judged 108 = .ok (.iload_n 3, 1) := by decide +kernel
theorem dX12_judged_109 : decode cX12_judged 109 = .ok (.imul, 1) := by decide +kernel
theorem dX12_judged_110 : decode cX12_judged 110 = .ok (.iadd, 1) := by decide +kernel
theorem dX12_judged_111 : decode cX12_judged 111 = .ok (.iaload, 1) := by decide +kernel
theorem dX12_judged_112 : decode cX12_judged 112 = .ok (.invokevirtual 412, 3) := by decide +kernel
theorem dX12_judged_115 : decode cX12_judged 115 = .ok (.pop, 1) := by decide +kernel
theorem dX12_judged_116 : decode cX12_judged 116 = .ok (.goto 33, 3) := by decide +kernel
theorem dX12_judged_119 : decode cX12_judged 119 = .ok (.aload_n 0, 1) := by decide +kernel
theorem dX12_judged_120 : decode cX12_judged 120 = .ok (.sipush 1680, 3) := by decide +kernel
theorem dX12_judged_123 : decode cX12_judged 123 = .ok (.invokevirtual 415, 3) := by decide +kernel
theorem dX12_judged_126 : decode cX12_judged 126 = .ok (.ifCond .eq 13, 3) := by decide +kernel
theorem dX12_judged_129 : decode cX12_judged 129 = .ok (.aload_n 0, 1) := by decide +kernel
theorem dX12_judged_130 : decode cX12_judged 130 = .ok (.sipush 1680, 3) := by decide +kernel
theorem dX12_judged_133 : decode cX12_judged 133 = .ok (.invokevirtual 418, 3) := by decide +kernel
theorem dX12_judged_136 : decode cX12_judged 136 = .ok (.goto 13, 3) := by decide +kernel
theorem dX12_judged_139 : decode cX12_judged 139 = .ok (.iload_n 2, 1) := by decide +kernel
theorem dX12_judged_140 : decode cX12_judged 140 = .ok (.ifCond .ge 7, 3) := by decide +kernel
theorem dX12_judged_143 : decode cX12_judged 143 = .ok (.iload_n 3, 1) := by decide +kernel
theorem dX12_judged_144 : decode cX12_judged 144 = .ok (.goto 4, 3) := by decide +kernel
theorem dX12_judged_147 : decode cX12_judged 147 = .ok (.iload_n 2, 1) := by decide +kernel
theorem dX12_judged_148 : decode cX12_judged 148 = .ok (.istore_n 2, 1) := by decide +kernel
theorem dX12_judged_149 : decode cX12_judged 149 = .ok (.iinc 3 1, 3) := by decide +kernel
theorem dX12_judged_152 : decode cX12_judged 152 = .ok (.goto (-119), 3) := by decide +kernel
theorem dX12_judged_155 : decode cX12_judged 155 = .ok (.iload_n 1, 1) := by decide +kernel
theorem dX12_judged_156 : decode cX12_judged 156 = .ok (.ifCond .ge 7, 3) := by decide +kernel
theorem dX12_judged_159 : decode cX12_judged 159 = .ok (.iload_n 2, 1) := by decide +kernel
theorem dX12_judged_160 : decode cX12_judged 160 = .ok (.goto 13, 3) := by decide +kernel
theorem dX12_judged_163 : decode cX12_judged 163 = .ok (.aload_n 0, 1) := by decide +kernel
theorem dX12_judged_164 : decode cX12_judged 164 = .ok (.getfield 130, 3) := by decide +kernel
theorem dX12_judged_167 : decode cX12_judged 167 = .ok (.sipush 1689, 3) := by decide +kernel
theorem dX12_judged_170 : decode cX12_judged 170 = .ok (.iload_n 1, 1) := by decide +kernel
theorem dX12_judged_171 : decode cX12_judged 171 = .ok (.iadd, 1) := by decide +kernel
theorem dX12_judged_172 : decode cX12_judged 172 = .ok (.iaload, 1) := by decide +kernel
theorem dX12_judged_173 : decode cX12_judged 173 = .ok (.ireturn, 1) := by decide +kernel
theorem dX12_findPlans_0 : decode cX12_findPlans 0 = .ok (.aload_n 0, 1) := by decide +kernel
theorem dX12_findPlans_1 : decode cX12_findPlans 1 = .ok (.iconst 0, 1) := by decide +kernel
theorem dX12_findPlans_2 : decode cX12_findPlans 2 = .ok (.putfield 422, 3) := by decide +kernel
theorem dX12_findPlans_5 : decode cX12_findPlans 5 = .ok (.iconst 0, 1) := by decide +kernel
theorem dX12_findPlans_6 : decode cX12_findPlans 6 = .ok (.istore_n 1, 1) := by decide +kernel
theorem dX12_findPlans_7 : decode cX12_findPlans 7 = .ok (.iload_n 1, 1) := by decide +kernel
theorem dX12_findPlans_8 : decode cX12_findPlans 8 = .ok (.sipush 256, 3) := by decide +kernel
theorem dX12_findPlans_11 : decode cX12_findPlans 11 = .ok (.if_icmp .ge 44, 3) := by decide +kernel
theorem dX12_findPlans_14 : decode cX12_findPlans 14 = .ok (.aload_n 0, 1) := by decide +kernel
theorem dX12_findPlans_15 : decode cX12_findPlans 15 = .ok (.iload_n 1, 1) := by decide +kernel
theorem dX12_findPlans_16 : decode cX12_findPlans 16 = .ok (.invokevirtual 393, 3) := by decide +kernel
theorem dX12_findPlans_19 : decode cX12_findPlans 19 = .ok (.ifCond .eq 30, 3) := by decide +kernel
theorem dX12_findPlans_22 : decode cX12_findPlans 22 = .ok (.aload_n 0, 1) := by decide +kernel
theorem dX12_findPlans_23 : decode cX12_findPlans 23 = .ok (.invokevirtual 396, 3) := by decide +kernel
theorem dX12_findPlans_26 : decode cX12_findPlans 26 = .ok (.ifCond .eq 23, 3) := by decide +kernel
theorem dX12_findPlans_29 : decode cX12_findPlans 29 = .ok (.aload_n 0, 1) := by decide +kernel
theorem dX12_findPlans_30 : decode cX12_findPlans 30 = .ok (.getfield 140, 3) := by decide +kernel
theorem dX12_findPlans_33 : decode cX12_findPlans 33 = .ok (.aload_n 0, 1) := by decide +kernel
theorem dX12_findPlans_34 : decode cX12_findPlans 34 = .ok (.getfield 422, 3) := by decide +kernel
theorem dX12_findPlans_37 : decode cX12_findPlans 37 = .ok (.iload_n 1, 1) := by decide +kernel
theorem dX12_findPlans_38 : decode cX12_findPlans 38 = .ok (.iastore, 1) := by decide +kernel
theorem dX12_findPlans_39 : decode cX12_findPlans 39 = .ok (.aload_n 0, 1) := by decide +kernel
theorem dX12_findPlans_40 : decode cX12_findPlans 40 = .ok (.dup, 1) := by decide +kernel
theorem dX12_findPlans_41 : decode cX12_findPlans 41 = .ok (.getfield 422, 3) := by decide +kernel
theorem dX12_findPlans_44 : decode cX12_findPlans 44 = .ok (.iconst 1, 1) := by decide +kernel
theorem dX12_findPlans_45 : decode cX12_findPlans 45 = .ok (.iadd, 1) := by decide +kernel
theorem dX12_findPlans_46 : decode cX12_findPlans 46 = .ok (.putfield 422, 3) := by decide +kernel
theorem dX12_findPlans_49 : decode cX12_findPlans 49 = .ok (.iinc 1 1, 3) := by decide +kernel
theorem dX12_findPlans_52 : decode cX12_findPlans 52 = .ok (.goto (-45), 3) := by decide +kernel
theorem dX12_findPlans_55 : decode cX12_findPlans 55 = .ok (.iconst 0, 1) := by decide +kernel
theorem dX12_findPlans_56 : decode cX12_findPlans 56 = .ok (.istore_n 1, 1) := by decide +kernel
theorem dX12_findPlans_57 : decode cX12_findPlans 57 = .ok (.iload_n 1, 1) := by decide +kernel
theorem dX12_findPlans_58 : decode cX12_findPlans 58 = .ok (.aload_n 0, 1) := by decide +kernel
theorem dX12_findPlans_59 : decode cX12_findPlans 59 = .ok (.getfield 422, 3) := by decide +kernel
theorem dX12_findPlans_62 : decode cX12_findPlans 62 = .ok (.if_icmp .ge 127, 3) := by decide +kernel
theorem dX12_findPlans_65 : decode cX12_findPlans 65 = .ok (.aload_n 0, 1) := by decide +kernel
theorem dX12_findPlans_66 : decode cX12_findPlans 66 = .ok (.aload_n 0, 1) := by decide +kernel
theorem dX12_findPlans_67 : decode cX12_findPlans 67 = .ok (.getfield 140, 3) := by decide +kernel
theorem dX12_findPlans_70 : decode cX12_findPlans 70 = .ok (.iload_n 1, 1) := by decide +kernel
theorem dX12_findPlans_71 : decode cX12_findPlans 71 = .ok (.iaload, 1) := by decide +kernel
theorem dX12_findPlans_72 : decode cX12_findPlans 72 = .ok (.invokevirtual 393, 3) := by decide +kernel
theorem dX12_findPlans_75 : decode cX12_findPlans 75 = .ok (.pop, 1) := by decide +kernel
theorem dX12_findPlans_76 : decode cX12_findPlans 76 = .ok (.iconst 0, 1) := by decide +kernel
theorem dX12_findPlans_77 : decode cX12_findPlans 77 = .ok (.istore_n 2, 1) := by decide +kernel
theorem dX12_findPlans_78 : decode cX12_findPlans 78 = .ok (.iload_n 2, 1) := by decide +kernel
theorem dX12_findPlans_79 : decode cX12_findPlans 79 = .ok (.aload_n 0, 1) := by decide +kernel
theorem dX12_findPlans_80 : decode cX12_findPlans 80 = .ok (.invokevirtual 368, 3) := by decide +kernel
theorem dX12_findPlans_83 : decode cX12_findPlans 83 = .ok (.if_icmp .ge 57, 3) := by decide +kernel
theorem dX12_findPlans_86 : decode cX12_findPlans 86 = .ok (.iconst 0, 1) := by decide +kernel
theorem dX12_findPlans_87 : decode cX12_findPlans 87 = .ok (.istore_n 3, 1) := by decide +kernel
theorem dX12_findPlans_88 : decode cX12_findPlans 88 = .ok (.iload_n 3, 1) := by decide +kernel
theorem dX12_findPlans_89 : decode cX12_findPlans 89 = .ok (.aload_n 0, 1) := by decide +kernel
theorem dX12_findPlans_90 : decode cX12_findPlans 90 = .ok (.invokevirtual 334, 3) := by decide +kernel
theorem dX12_findPlans_93 : decode cX12_findPlans 93 = .ok (.if_icmp .ge 41, 3) := by decide +kernel
theorem dX12_findPlans_96 : decode cX12_findPlans 96 = .ok (.aload_n 0, 1) := by decide +kernel
theorem dX12_findPlans_97 : decode cX12_findPlans 97 = .ok (.getfield 143, 3) := by decide +kernel
theorem dX12_findPlans_100 : decode cX12_findPlans 100 = .ok (.bipush 96, 2) := by decide +kernel
theorem dX12_findPlans_102 : decode cX12_findPlans 102 = .ok (.iload_n 2, 1) := by decide +kernel
theorem dX12_findPlans_103 : decode cX12_findPlans 103 = .ok (.imul, 1) := by decide +kernel
theorem dX12_findPlans_104 : decode cX12_findPlans 104 = .ok (.iconst 4, 1) := by decide +kernel
theorem dX12_findPlans_105 : decode cX12_findPlans 105 = .ok (.iload_n 1, 1) := by decide +kernel
theorem dX12_findPlans_106 : decode cX12_findPlans 106 = .ok (.imul, 1) := by decide +kernel
theorem dX12_findPlans_107 : decode cX12_findPlans 107 = .ok (.iadd, 1) := by decide +kernel
theorem dX12_findPlans_108 : decode cX12_findPlans 108 = .ok (.iload_n 3, 1) := by decide +kernel
theorem dX12_findPlans_109 : decode cX12_findPlans 109 = .ok (.iadd, 1) := by decide +kernel
theorem dX12_findPlans_110 : decode cX12_findPlans 110 = .ok (.aload_n 0, 1) := by decide +kernel
theorem dX12_findPlans_111 : decode cX12_findPlans 111 = .ok (.iload_n 3, 1) := by decide +kernel
theorem dX12_findPlans_112 : decode cX12_findPlans 112 = .ok (.aload_n 0, 1) := by decide +kernel
theorem dX12_findPlans_113 : decode cX12_findPlans 113 = .ok (.getfield 137, 3) := by decide +kernel
theorem dX12_findPlans_116 : decode cX12_findPlans 116 = .ok (.iload_n 3, 1) := by decide +kernel
theorem dX12_findPlans_117 : decode cX12_findPlans 117 = .ok (.iaload, 1) := by decide +kernel
theorem dX12_findPlans_118 : decode cX12_findPlans 118 = .ok (.iload_n 2, 1) := by decide +kernel
theorem dX12_findPlans_119 : decode cX12_findPlans 119 = .ok (.aload_n 0, 1) := by decide +kernel
theorem dX12_findPlans_120 : decode cX12_findPlans 120 = .ok (.iload_n 3, 1) := by decide +kernel
theorem dX12_findPlans_121 : decode cX12_findPlans 121 = .ok (.invokevirtual 399, 3) := by decide +kernel
theorem dX12_findPlans_124 : decode cX12_findPlans 124 = .ok (.invokevirtual 402, 3) := by decide +kernel
theorem dX12_findPlans_127 : decode cX12_findPlans 127 = .ok (.iastore, 1) := by decide +kernel
theorem dX12_findPlans_128 : decode cX12_findPlans 128 = .ok (.iinc 3 1, 3) := by decide +kernel
theorem dX12_findPlans_131 : decode cX12_findPlans 131 = .ok (.goto (-43), 3) := by decide +kernel
theorem dX12_findPlans_134 : decode cX12_findPlans 134 = .ok (.iinc 2 1, 3) := by decide +kernel
theorem dX12_findPlans_137 : decode cX12_findPlans 137 = .ok (.goto (-59), 3) := by decide +kernel
theorem dX12_findPlans_140 : decode cX12_findPlans 140 = .ok (.iconst 0, 1) := by decide +kernel
theorem dX12_findPlans_141 : decode cX12_findPlans 141 = .ok (.istore_n 2, 1) := by decide +kernel
theorem dX12_findPlans_142 : decode cX12_findPlans 142 = .ok (.iload_n 2, 1) := by decide +kernel
theorem dX12_findPlans_143 : decode cX12_findPlans 143 = .ok (.aload_n 0, 1) := by decide +kernel
theorem dX12_findPlans_144 : decode cX12_findPlans 144 = .ok (.getfield 422, 3) := by decide +kernel
theorem dX12_findPlans_147 : decode cX12_findPlans 147 = .ok (.if_icmp .ge 36, 3) := by decide +kernel
theorem dX12_findPlans_150 : decode cX12_findPlans 150 = .ok (.aload_n 0, 1) := by decide +kernel
theorem dX12_findPlans_151 : decode cX12_findPlans 151 = .ok (.getfield 146, 3) := by decide +kernel
theorem dX12_findPlans_154 : decode cX12_findPlans 154 = .ok (.bipush 24, 2) := by decide +kernel
theorem dX12_findPlans_156 : decode cX12_findPlans 156 = .ok (.iload_n 1, 1) := by decide +kernel
theorem dX12_findPlans_157 : decode cX12_findPlans 157 = .ok (.imul, 1) := by decide +kernel
theorem dX12_findPlans_158 : decode cX12_findPlans 158 = .ok (.iload_n 2, 1) := by decide +kernel
theorem dX12_findPlans_159 : decode cX12_findPlans 159 = .ok (.iadd, 1) := by decide +kernel
theorem dX12_findPlans_160 : decode cX12_findPlans 160 = .ok (.aload_n 0, 1) := by decide +kernel
theorem dX12_findPlans_161 : decode cX12_findPlans 161 = .ok (.aload_n 0, 1) := by decide +kernel
theorem dX12_findPlans_162 : decode cX12_findPlans 162 = .ok (.getfield 140, 3) := by decide +kernel
theorem dX12_findPlans_165 : decode cX12_findPlans 165 = .ok (.iload_n 1, 1) := by decide +kernel
theorem dX12_findPlans_166 : decode cX12_findPlans 166 = .ok (.iaload, 1) := by decide +kernel
theorem dX12_findPlans_167 : decode cX12_findPlans 167 = .ok (.aload_n 0, 1) := by decide +kernel
theorem dX12_findPlans_168 : decode cX12_findPlans 168 = .ok (.getfield 140, 3) := by decide +kernel
theorem dX12_findPlans_171 : decode cX12_findPlans 171 = .ok (.iload_n 2, 1) := by decide +kernel
theorem dX12_findPlans_172 : decode cX12_findPlans 172 = .ok (.iaload, 1) := by decide +kernel
theorem dX12_findPlans_173 : decode cX12_findPlans 173 = .ok (.invokevirtual 425, 3) := by decide +kernel
theorem dX12_findPlans_176 : decode cX12_findPlans 176 = .ok (.iastore, 1) := by decide +kernel
theorem dX12_findPlans_177 : decode cX12_findPlans 177 = .ok (.iinc 2 1, 3) := by decide +kernel
theorem dX12_findPlans_180 : decode cX12_findPlans 180 = .ok (.goto (-38), 3) := by decide +kernel
theorem dX12_findPlans_183 : decode cX12_findPlans 183 = .ok (.iinc 1 1, 3) := by decide +kernel
theorem dX12_findPlans_186 : decode cX12_findPlans 186 = .ok (.goto (-129), 3) := by decide +kernel
theorem dX12_findPlans_189 : decode cX12_findPlans 189 = .ok (.iconst 0, 1) := by decide +kernel
theorem dX12_findPlans_190 : decode cX12_findPlans 190 = .ok (.istore_n 1, 1) := by decide +kernel
theorem dX12_findPlans_191 : decode cX12_findPlans 191 = .ok (.iload_n 1, 1) := by decide +kernel
theorem dX12_findPlans_192 : decode cX12_findPlans 192 = .ok (.iconst 4, 1) := by decide +kernel
theorem dX12_findPlans_193 : decode cX12_findPlans 193 = .ok (.if_icmp .ge 21, 3) := by decide +kernel
theorem dX12_findPlans_196 : decode cX12_findPlans 196 = .ok (.aload_n 0, 1) := by decide +kernel
theorem dX12_findPlans_197 : decode cX12_findPlans 197 = .ok (.getfield 158, 3) := by decide +kernel
theorem dX12_findPlans_200 : decode cX12_findPlans 200 = .ok (.iload_n 1, 1) := by decide +kernel
theorem dX12_findPlans_201 : decode cX12_findPlans 201 = .ok (.aload_n 0, 1) := by decide +kernel
theorem dX12_findPlans_202 : decode cX12_findPlans 202 = .ok (.iload_n 1, 1) := by decide +kernel
theorem dX12_findPlans_203 : decode cX12_findPlans 203 = .ok (.iconst 2, 1) := by decide +kernel
theorem dX12_findPlans_204 : decode cX12_findPlans 204 = .ok (.invokevirtual 355, 3) := by decide +kernel
theorem dX12_findPlans_207 : decode cX12_findPlans 207 = .ok (.iastore, 1) := by decide +kernel
theorem dX12_findPlans_208 : decode cX12_findPlans 208 = .ok (.iinc 1 1, 3) := by decide +kernel
theorem dX12_findPlans_211 : decode cX12_findPlans 211 = .ok (.goto (-20), 3) := by decide +kernel
theorem dX12_findPlans_214 : decode cX12_findPlans 214 = .ok (.return_, 1) := by decide +kernel
theorem dX12_changed_0 : decode cX12_changed 0 = .ok (.iload_n 1, 1) := by decide +kernel
theorem dX12_changed_1 : decode cX12_changed 1 = .ok (.istore_n 3, 1) := by decide +kernel
theorem dX12_changed_2 : decode cX12_changed 2 = .ok (.iload_n 2, 1) := by decide +kernel
theorem dX12_changed_3 : decode cX12_changed 3 = .ok (.istore 4, 2) := by decide +kernel
theorem dX12_changed_5 : decode cX12_changed 5 = .ok (.iconst 0, 1) := by decide +kernel
theorem dX12_changed_6 : decode cX12_changed 6 = .ok (.istore 5, 2) := by decide +kernel
theorem dX12_changed_8 : decode cX12_changed 8 = .ok (.aload_n 0, 1) := by decide +kernel
theorem dX12_changed_9 : decode cX12_changed 9 = .ok (.invokevirtual 334, 3) := by decide +kernel
theorem dX12_changed_12 : decode cX12_changed 12 = .ok (.iconst 1, 1) := by decide +kernel
theorem dX12_changed_13 : decode cX12_changed 13 = .ok (.isub, 1) := by decide +kernel
theorem dX12_changed_14 : decode cX12_changed 14 = .ok (.istore 6, 2) := by decide +kernel
theorem dX12_changed_16 : decode cX12_changed 16 = .ok (.iload 6, 2) := by decide +kernel
theorem dX12_changed_18 : decode cX12_changed 18 = .ok (.ifCond .lt 42, 3) := by decide +kernel
theorem dX12_changed_21 : decode cX12_changed 21 = .ok (.iload 5, 2) := by decide +kernel
theorem dX12_changed_23 : decode cX12_changed 23 = .ok (.iload_n 3, 1) := by decide +kernel
theorem dX12_changed_24 : decode cX12_changed 24 = .ok (.iconst 4, 1) := by decide +kernel
theorem dX12_changed_25 : decode cX12_changed 25 = .ok (.irem, 1) := by decide +kernel
theorem dX12_changed_26 : decode cX12_changed 26 = .ok (.iload 4, 2) := by decide +kernel
theorem dX12_changed_28 : decode cX12_changed 28 = .ok (.iconst 4, 1) := by decide +kernel
theorem dX12_changed_29 : decode cX12_changed 29 = .ok (.irem, 1) := by decide +kernel
theorem dX12_changed_30 : decode cX12_changed 30 = .ok (.if_icmp .eq 10, 3) := by decide +kernel
theorem dX12_changed_33 : decode cX12_changed 33 = .ok (.iconst 1, 1) := by decide +kernel
theorem dX12_changed_34 : decode cX12_changed 34 = .ok (.iload 6, 2) := by decide +kernel
theorem dX12_changed_36 : decode cX12_changed 36 = .ok (.ishl, 1) := by decide +kernel
theorem dX12_changed_37 : decode cX12_changed 37 = .ok (.goto 4, 3) := by decide +kernel
theorem dX12_changed_40 : decode cX12_changed 40 = .ok (.iconst 0, 1) := by decide +kernel
theorem dX12_changed_41 : decode cX12_changed 41 = .ok (.ior, 1) := by decide +kernel
theorem dX12_changed_42 : decode cX12_changed 42 = .ok (.istore 5, 2) := by decide +kernel
theorem dX12_changed_44 : decode cX12_changed 44 = .ok (.iload_n 3, 1) := by decide +kernel
theorem dX12_changed_45 : decode cX12_changed 45 = .ok (.iconst 4, 1) := by decide +kernel
theorem dX12_changed_46 : decode cX12_changed 46 = .ok (.idiv, 1) := by decide +kernel
theorem dX12_changed_47 : decode cX12_changed 47 = .ok (.istore_n 3, 1) := by decide +kernel
theorem dX12_changed_48 : decode cX12_changed 48 = .ok (.iload 4, 2) := by decide +kernel
theorem dX12_changed_50 : decode cX12_changed 50 = .ok (.iconst 4, 1) := by decide +kernel
theorem dX12_changed_51 : decode cX12_changed 51 = .ok (.idiv, 1) := by decide +kernel
theorem dX12_changed_52 : decode cX12_changed 52 = .ok (.istore 4, 2) := by decide +kernel
theorem dX12_changed_54 : decode cX12_changed 54 = .ok (.iinc 6 (-1), 3) := by decide +kernel
theorem dX12_changed_57 : decode cX12_changed 57 = .ok (.goto (-41), 3) := by decide +kernel
theorem dX12_changed_60 : decode cX12_changed 60 = .ok (.iload 5, 2) := by decide +kernel
theorem dX12_changed_62 : decode cX12_changed 62 = .ok (.ireturn, 1) := by decide +kernel
theorem dX12_bits_0 : decode cX12_bits 0 = .ok (.iconst 0, 1) := by decide +kernel
theorem dX12_bits_1 : decode cX12_bits 1 = .ok (.istore_n 1, 1) := by decide +kernel
theorem dX12_bits_2 : decode cX12_bits 2 = .ok (.iconst 0, 1) := by decide +kernel
theorem dX12_bits_3 : decode cX12_bits 3 = .ok (.istore_n 2, 1) := by decide +kernel
theorem dX12_bits_4 : decode cX12_bits 4 = .ok (.iload_n 2, 1) := by decide +kernel
theorem dX12_bits_5 : decode cX12_bits 5 = .ok (.iconst 4, 1) := by decide +kernel
theorem dX12_bits_6 : decode cX12_bits 6 = .ok (.if_icmp .ge 17, 3) := by decide +kernel
theorem dX12_bits_9 : decode cX12_bits 9 = .ok (.iload_n 1, 1) := by decide +kernel
theorem dX12_bits_10 : decode cX12_bits 10 = .ok (.iload_n 0, 1) := by decide +kernel
theorem dX12_bits_11 : decode cX12_bits 11 = .ok (.iload_n 2, 1) := by decide +kernel
theorem dX12_bits_12 : decode cX12_bits 12 = .ok (.ishr, 1) := by decide +kernel
theorem dX12_bits_13 : decode cX12_bits 13 = .ok (.iconst 1, 1) := by decide +kernel
theorem dX12_bits_14 : decode cX12_bits 14 = .ok (.iand, 1) := by decide +kernel
theorem dX12_bits_15 : decode cX12_bits 15 = .ok (.iadd, 1) := by decide +kernel
theorem dX12_bits_16 : decode cX12_bits 16 = .ok (.istore_n 1, 1) := by decide +kernel
theorem dX12_bits_17 : decode cX12_bits 17 = .ok (.iinc 2 1, 3) := by decide +kernel
theorem dX12_bits_20 : decode cX12_bits 20 = .ok (.goto (-16), 3) := by decide +kernel
theorem dX12_bits_23 : decode cX12_bits 23 = .ok (.iload_n 1, 1) := by decide +kernel
theorem dX12_bits_24 : decode cX12_bits 24 = .ok (.ireturn, 1) := by decide +kernel
theorem dX12_spreadAt_0 : decode cX12_spreadAt 0 = .ok (.aload_n 0, 1) := by decide +kernel
theorem dX12_spreadAt_1 : decode cX12_spreadAt 1 = .ok (.getfield 152, 3) := by decide +kernel
theorem dX12_spreadAt_4 : decode cX12_spreadAt 4 = .ok (.iload_n 1, 1) := by decide +kernel
theorem dX12_spreadAt_5 : decode cX12_spreadAt 5 = .ok (.iaload, 1) := by decide +kernel
theorem dX12_spreadAt_6 : decode cX12_spreadAt 6 = .ok (.istore_n 2, 1) := by decide +kernel
theorem dX12_spreadAt_7 : decode cX12_spreadAt 7 = .ok (.aload_n 0, 1) := by decide +kernel
theorem dX12_spreadAt_8 : decode cX12_spreadAt 8 = .ok (.getfield 152, 3) := by decide +kernel
theorem dX12_spreadAt_11 : decode cX12_spreadAt 11 = .ok (.iload_n 1, 1) := by decide +kernel
theorem dX12_spreadAt_12 : decode cX12_spreadAt 12 = .ok (.iaload, 1) := by decide +kernel
theorem dX12_spreadAt_13 : decode cX12_spreadAt 13 = .ok (.istore_n 3, 1) := by decide +kernel
theorem dX12_spreadAt_14 : decode cX12_spreadAt 14 = .ok (.iconst 1, 1) := by decide +kernel
theorem dX12_spreadAt_15 : decode cX12_spreadAt 15 = .ok (.istore 4, 2) := by decide +kernel
theorem dX12_spreadAt_17 : decode cX12_spreadAt 17 = .ok (.iload 4, 2) := by decide +kernel
theorem dX12_spreadAt_19 : decode cX12_spreadAt 19 = .ok (.aload_n 0, 1) := by decide +kernel
theorem dX12_spreadAt_20 : decode cX12_spreadAt 20 = .ok (.invokevirtual 334, 3) := by decide +kernel
theorem dX12_spreadAt_23 : decode cX12_spreadAt 23 = .ok (.if_icmp .ge 63, 3) := by decide +kernel
theorem dX12_spreadAt_26 : decode cX12_spreadAt 26 = .ok (.aload_n 0, 1) := by decide +kernel
theorem dX12_spreadAt_27 : decode cX12_spreadAt 27 = .ok (.getfield 152, 3) := by decide +kernel
theorem dX12_spreadAt_30 : decode cX12_spreadAt 30 = .ok (.iload_n 1, 1) := by decide +kernel
theorem dX12_spreadAt_31 : decode cX12_spreadAt 31 = .ok (.iload 4, 2) := by decide +kernel
theorem dX12_spreadAt_33 : decode cX12_spreadAt 33 = .ok (.iadd, 1) := by decide +kernel
theorem dX12_spreadAt_34 : decode cX12_spreadAt 34 = .ok (.iaload, 1) := by decide +kernel
theorem dX12_spreadAt_35 : decode cX12_spreadAt 35 = .ok (.iload_n 2, 1) := by decide +kernel
theorem dX12_spreadAt_36 : decode cX12_spreadAt 36 = .ok (.if_icmp .ge 15, 3) := by decide +kernel
theorem dX12_spreadAt_39 : decode cX12_spreadAt 39 = .ok (.aload_n 0, 1) := by decide +kernel
theorem dX12_spreadAt_40 : decode cX12_spreadAt 40 = .ok (.getfield 152, 3) := by decide +kernel
theorem dX12_spreadAt_43 : decode cX12_spreadAt 43 = .ok (.iload_n 1, 1) := by decide +kernel
theorem dX12_spreadAt_44 : decode cX12_spreadAt 44 = .ok (.iload 4, 2) := by decide +kernel
theorem dX12_spreadAt_46 : decode cX12_spreadAt 46 = .ok (.iadd, 1) := by decide +kernel
theorem dX12_spreadAt_47 : decode cX12_spreadAt 47 = .ok (.iaload, 1) := by decide +kernel
theorem dX12_spreadAt_48 : decode cX12_spreadAt 48 = .ok (.goto 4, 3) := by decide +kernel
theorem dX12_spreadAt_51 : decode cX12_spreadAt 51 = .ok (.iload_n 2, 1) := by decide +kernel
theorem dX12_spreadAt_52 : decode cX12_spreadAt 52 = .ok (.istore_n 2, 1) := by decide +kernel
theorem dX12_spreadAt_53 : decode cX12_spreadAt 53 = .ok (.aload_n 0, 1) := by decide +kernel
theorem dX12_spreadAt_54 : decode cX12_spreadAt 54 = .ok (.getfield 152, 3) := by decide +kernel
theorem dX12_spreadAt_57 : decode cX12_spreadAt 57 = .ok (.iload_n 1, 1) := by decide +kernel
theorem dX12_spreadAt_58 : decode cX12_spreadAt 58 = .ok (.iload 4, 2) := by decide +kernel
theorem dX12_spreadAt_60 : decode cX12_spreadAt 60 = .ok (.iadd, 1) := by decide +kernel
theorem dX12_spreadAt_61 : decode cX12_spreadAt 61 = .ok (.iaload, 1) := by decide +kernel
theorem dX12_spreadAt_62 : decode cX12_spreadAt 62 = .ok (.iload_n 3, 1) := by decide +kernel
theorem dX12_spreadAt_63 : decode cX12_spreadAt 63 = .ok (.if_icmp .le 15, 3) := by decide +kernel
theorem dX12_spreadAt_66 : decode cX12_spreadAt 66 = .ok (.aload_n 0, 1) := by decide +kernel
theorem dX12_spreadAt_67 : decode cX12_spreadAt 67 = .ok (.getfield 152, 3) := by decide +kernel
theorem dX12_spreadAt_70 : decode cX12_spreadAt 70 = .ok (.iload_n 1, 1) := by decide +kernel
theorem dX12_spreadAt_71 : decode cX12_spreadAt 71 = .ok (.iload 4, 2) := by decide +kernel
theorem dX12_spreadAt_73 : decode cX12_spreadAt 73 = .ok (.iadd, 1) := by decide +kernel
theorem dX12_spreadAt_74 : decode cX12_spreadAt 74 = .ok (.iaload, 1) := by decide +kernel
theorem dX12_spreadAt_75 : decode cX12_spreadAt 75 = .ok (.goto 4, 3) := by decide +kernel
theorem dX12_spreadAt_78 : decode cX12_spreadAt 78 = .ok (.iload_n 3, 1) := by decide +kernel
theorem dX12_spreadAt_79 : decode cX12_spreadAt 79 = .ok (.istore_n 3, 1) := by decide +kernel
theorem dX12_spreadAt_80 : decode cX12_spreadAt 80 = .ok (.iinc 4 1, 3) := by decide +kernel
theorem dX12_spreadAt_83 : decode cX12_spreadAt 83 = .ok (.goto (-66), 3) := by decide +kernel
theorem dX12_spreadAt_86 : decode cX12_spreadAt 86 = .ok (.iload_n 3, 1) := by decide +kernel
theorem dX12_spreadAt_87 : decode cX12_spreadAt 87 = .ok (.iload_n 2, 1) := by decide +kernel
theorem dX12_spreadAt_88 : decode cX12_spreadAt 88 = .ok (.isub, 1) := by decide +kernel
theorem dX12_spreadAt_89 : decode cX12_spreadAt 89 = .ok (.ireturn, 1) := by decide +kernel
theorem dX12_valueAt_0 : decode cX12_valueAt 0 = .ok (.aload_n 0, 1) := by decide +kernel
theorem dX12_valueAt_1 : decode cX12_valueAt 1 = .ok (.getfield 428, 3) := by decide +kernel
theorem dX12_valueAt_4 : decode cX12_valueAt 4 = .ok (.ifCond .ne 9, 3) := by decide +kernel
theorem dX12_valueAt_7 : decode cX12_valueAt 7 = .ok (.aload_n 0, 1) := by decide +kernel
theorem dX12_valueAt_8 : decode cX12_valueAt 8 = .ok (.iload_n 1, 1) := by decide +kernel
theorem dX12_valueAt_9 : decode cX12_valueAt 9 = .ok (.invokevirtual 431, 3) := by decide +kernel
theorem dX12_valueAt_12 : decode cX12_valueAt 12 = .ok (.ireturn, 1) := by decide +kernel
theorem dX12_valueAt_13 : decode cX12_valueAt 13 = .ok (.iconst 0, 1) := by decide +kernel
theorem dX12_valueAt_14 : decode cX12_valueAt 14 = .ok (.istore_n 2, 1) := by decide +kernel
theorem dX12_valueAt_15 : decode cX12_valueAt 15 = .ok (.aload_n 0, 1) := by decide +kernel
theorem dX12_valueAt_16 : decode cX12_valueAt 16 = .ok (.getfield 152, 3) := by decide +kernel
theorem dX12_valueAt_19 : decode cX12_valueAt 19 = .ok (.iload_n 1, 1) := by decide +kernel
theorem dX12_valueAt_20 : decode cX12_valueAt 20 = .ok (.iaload, 1) := by decide +kernel
theorem dX12_valueAt_21 : decode cX12_valueAt 21 = .ok (.istore_n 3, 1) := by decide +kernel
theorem dX12_valueAt_22 : decode cX12_valueAt 22 = .ok (.iconst 0, 1) := by decide +kernel
theorem dX12_valueAt_23 : decode cX12_valueAt 23 = .ok (.istore 4, 2) := by decide +kernel
theorem dX12_valueAt_25 : decode cX12_valueAt 25 = .ok (.iload 4, 2) := by decide +kernel
theorem dX12_valueAt_27 : decode cX12_valueAt 27 = .ok (.aload_n 0, 1) := by decide +kernel
theorem dX12_valueAt_28 : decode cX12_valueAt 28 = .ok (.invokevirtual 334, 3) := by decide +kernel
theorem dX12_valueAt_31 : decode cX12_valueAt 31 = .ok (.if_icmp .ge 48, 3) := by decide +kernel
theorem dX12_valueAt_34 : decode cX12_valueAt 34 = .ok (.iload_n 2, 1) := by decide +kernel
theorem dX12_valueAt_35 : decode cX12_valueAt 35 = .ok (.aload_n 0, 1) := by decide +kernel
theorem dX12_valueAt_36 : decode cX12_valueAt 36 = .ok (.getfield 152, 3) := by decide +kernel
theorem dX12_valueAt_39 : decode cX12_valueAt 39 = .ok (.iload_n 1, 1) := by decide +kernel
theorem dX12_valueAt_40 : decode cX12_valueAt 40 = .ok (.iload 4, 2) := by decide +kernel
theorem dX12_valueAt_42 : decode cX12_valueAt 42 = .ok (.iadd, 1) := by decide +kernel
theorem dX12_valueAt_43 : decode cX12_valueAt 43 = .ok (.iaload, 1) := by decide +kernel
theorem dX12_valueAt_44 : decode cX12_valueAt 44 = .ok (.iadd, 1) := by decide +kernel
theorem dX12_valueAt_45 : decode cX12_valueAt 45 = .ok (.istore_n 2, 1) := by decide +kernel
theorem dX12_valueAt_46 : decode cX12_valueAt 46 = .ok (.aload_n 0, 1) := by decide +kernel
theorem dX12_valueAt_47 : decode cX12_valueAt 47 = .ok (.getfield 152, 3) := by decide +kernel
theorem dX12_valueAt_50 : decode cX12_valueAt 50 = .ok (.iload_n 1, 1) := by decide +kernel
theorem dX12_valueAt_51 : decode cX12_valueAt 51 = .ok (.iload 4, 2) := by decide +kernel
theorem dX12_valueAt_53 : decode cX12_valueAt 53 = .ok (.iadd, 1) := by decide +kernel
theorem dX12_valueAt_54 : decode cX12_valueAt 54 = .ok (.iaload, 1) := by decide +kernel
theorem dX12_valueAt_55 : decode cX12_valueAt 55 = .ok (.iload_n 3, 1) := by decide +kernel
theorem dX12_valueAt_56 : decode cX12_valueAt 56 = .ok (.if_icmp .ge 15, 3) := by decide +kernel
theorem dX12_valueAt_59 : decode cX12_valueAt 59 = .ok (.aload_n 0, 1) := by decide +kernel
theorem dX12_valueAt_60 : decode cX12_valueAt 60 = .ok (.getfield 152, 3) := by decide +kernel
theorem dX12_valueAt_63 : decode cX12_valueAt 63 = .ok (.iload_n 1, 1) := by decide +kernel
theorem dX12_valueAt_64 : decode cX12_valueAt 64 = .ok (.iload 4, 2) := by decide +kernel
theorem dX12_valueAt_66 : decode cX12_valueAt 66 = .ok (.iadd, 1) := by decide +kernel
theorem dX12_valueAt_67 : decode cX12_valueAt 67 = .ok (.iaload, 1) := by decide +kernel
theorem dX12_valueAt_68 : decode cX12_valueAt 68 = .ok (.goto 4, 3) := by decide +kernel
theorem dX12_valueAt_71 : decode cX12_valueAt 71 = .ok (.iload_n 3, 1) := by decide +kernel
theorem dX12_valueAt_72 : decode cX12_valueAt 72 = .ok (.istore_n 3, 1) := by decide +kernel
theorem dX12_valueAt_73 : decode cX12_valueAt 73 = .ok (.iinc 4 1, 3) := by decide +kernel
theorem dX12_valueAt_76 : decode cX12_valueAt 76 = .ok (.goto (-51), 3) := by decide +kernel
theorem dX12_valueAt_79 : decode cX12_valueAt 79 = .ok (.aload_n 0, 1) := by decide +kernel
theorem dX12_valueAt_80 : decode cX12_valueAt 80 = .ok (.getfield 428, 3) := by decide +kernel
theorem dX12_valueAt_83 : decode cX12_valueAt 83 = .ok (.iconst 1, 1) := by decide +kernel
theorem dX12_valueAt_84 : decode cX12_valueAt 84 = .ok (.if_icmp .ne 8, 3) := by decide +kernel
theorem dX12_valueAt_87 : decode cX12_valueAt 87 = .ok (.iload_n 2, 1) := by decide +kernel
theorem dX12_valueAt_88 : decode cX12_valueAt 88 = .ok (.ineg, 1) := by decide +kernel
theorem dX12_valueAt_89 : decode cX12_valueAt 89 = .ok (.goto 5, 3) := by decide +kernel
theorem dX12_valueAt_92 : decode cX12_valueAt 92 = .ok (.iload_n 3, 1) := by decide +kernel
theorem dX12_valueAt_93 : decode cX12_valueAt 93 = .ok (.ineg, 1) := by decide +kernel
theorem dX12_valueAt_94 : decode cX12_valueAt 94 = .ok (.ireturn, 1) := by decide +kernel
theorem dX12_looks_0 : decode cX12_looks 0 = .ok (.aload_n 0, 1) := by decide +kernel
theorem dX12_looks_1 : decode cX12_looks 1 = .ok (.iconst 4, 1) := by decide +kernel
theorem dX12_looks_2 : decode cX12_looks 2 = .ok (.iload_n 1, 1) := by decide +kernel
theorem dX12_looks_3 : decode cX12_looks 3 = .ok (.imul, 1) := by decide +kernel
theorem dX12_looks_4 : decode cX12_looks 4 = .ok (.invokevirtual 434, 3) := by decide +kernel
theorem dX12_looks_7 : decode cX12_looks 7 = .ok (.istore_n 2, 1) := by decide +kernel
theorem dX12_looks_8 : decode cX12_looks 8 = .ok (.aload_n 0, 1) := by decide +kernel
theorem dX12_looks_9 : decode cX12_looks 9 = .ok (.getfield 437, 3) := by decide +kernel
theorem dX12_looks_12 : decode cX12_looks 12 = .ok (.ifCond .eq 39, 3) := by decide +kernel
theorem dX12_looks_15 : decode cX12_looks 15 = .ok (.iload_n 2, 1) := by decide +kernel
theorem dX12_looks_16 : decode cX12_looks 16 = .ok (.aload_n 0, 1) := by decide +kernel
theorem dX12_looks_17 : decode cX12_looks 17 = .ok (.getfield 440, 3) := by decide +kernel
theorem dX12_looks_20 : decode cX12_looks 20 = .ok (.if_icmp .lt 31, 3) := by decide +kernel
theorem dX12_looks_23 : decode cX12_looks 23 = .ok (.aload_n 0, 1) := by decide +kernel
theorem dX12_looks_24 : decode cX12_looks 24 = .ok (.getfield 428, 3) := by decide +kernel
theorem dX12_looks_27 : decode cX12_looks 27 = .ok (.ifCond .ne 28, 3) := by decide +kernel
theorem dX12_looks_30 : decode cX12_looks 30 = .ok (.iload_n 2, 1) := by decide +kernel
theorem dX12_looks_31 : decode cX12_looks 31 = .ok (.aload_n 0, 1) := by decide +kernel
theorem dX12_looks_32 : decode cX12_looks 32 = .ok (.getfield 440, 3) := by decide +kernel
theorem dX12_looks_35 : decode cX12_looks 35 = .ok (.if_icmp .ne 20, 3) := by decide +kernel
theorem dX12_looks_38 : decode cX12_looks 38 = .ok (.aload_n 0, 1) := by decide +kernel
theorem dX12_looks_39 : decode cX12_looks 39 = .ok (.getfield 155, 3) := by decide +kernel
theorem dX12_looks_42 : decode cX12_looks 42 = .ok (.iload_n 1, 1) := by decide +kernel
theorem dX12_looks_43 : decode cX12_looks 43 = .ok (.iaload, 1) := by decide +kernel
theorem dX12_looks_44 : decode cX12_looks 44 = .ok (.aload_n 0, 1) := by decide +kernel
theorem dX12_looks_45 : decode cX12_looks 45 = .ok (.getfield 443, 3) := by decide +kernel
theorem dX12_looks_48 : decode cX12_looks 48 = .ok (.if_icmp .ge 7, 3) := by decide +kernel
theorem dX12_looks_51 : decode cX12_looks 51 = .ok (.iconst 1, 1) := by decide +kernel
theorem dX12_looks_52 : decode cX12_looks 52 = .ok (.goto 4, 3) := by decide +kernel
theorem dX12_looks_55 : decode cX12_looks 55 = .ok (.iconst 0, 1) := by decide +kernel
theorem dX12_looks_56 : decode cX12_looks 56 = .ok (.istore_n 3, 1) := by decide +kernel
theorem dX12_looks_57 : decode cX12_looks 57 = .ok (.iload_n 3, 1) := by decide +kernel
theorem dX12_looks_58 : decode cX12_looks 58 = .ok (.ifCond .eq 90, 3) := by decide +kernel
theorem dX12_looks_61 : decode cX12_looks 61 = .ok (.aload_n 0, 1) := by decide +kernel
theorem dX12_looks_62 : decode cX12_looks 62 = .ok (.iconst 1, 1) := by decide +kernel
theorem dX12_looks_63 : decode cX12_looks 63 = .ok (.putfield 437, 3) := by decide +kernel
theorem dX12_looks_66 : decode cX12_looks 66 = .ok (.aload_n 0, 1) := by decide +kernel
theorem dX12_looks_67 : decode cX12_looks 67 = .ok (.iload_n 2, 1) := by decide +kernel
theorem dX12_looks_68 : decode cX12_looks 68 = .ok (.putfield 440, 3) := by decide +kernel
theorem dX12_looks_71 : decode cX12_looks 71 = .ok (.aload_n 0, 1) := by decide +kernel
theorem dX12_looks_72 : decode cX12_looks 72 = .ok (.aload_n 0, 1) := by decide +kernel
theorem dX12_looks_73 : decode cX12_looks 73 = .ok (.getfield 155, 3) := by decide +kernel
theorem dX12_looks_76 : decode cX12_looks 76 = .ok (.iload_n 1, 1) := by decide +kernel
theorem dX12_looks_77 : decode cX12_looks 77 = .ok (.iaload, 1) := by decide +kernel
theorem dX12_looks_78 : decode cX12_looks 78 = .ok (.putfield 443, 3) := by decide +kernel
theorem dX12_looks_81 : decode cX12_looks 81 = .ok (.iconst 0, 1) := by decide +kernel
theorem dX12_looks_82 : decode cX12_looks 82 = .ok (.istore 4, 2) := by decide +kernel
theorem dX12_looks_84 : decode cX12_looks 84 = .ok (.iload 4, 2) := by decide +kernel
theorem dX12_looks_86 : decode cX12_looks 86 = .ok (.iload_n 1, 1) := by decide +kernel
theorem dX12_looks_87 : decode cX12_looks 87 = .ok (.if_icmp .ge 28, 3) := by decide +kernel
theorem dX12_looks_90 : decode cX12_looks 90 = .ok (.aload_n 0, 1) := by decide +kernel
theorem dX12_looks_91 : decode cX12_looks 91 = .ok (.getfield 161, 3) := by decide +kernel
theorem dX12_looks_94 : decode cX12_looks 94 = .ok (.iload 4, 2) := by decide +kernel
theorem dX12_looks_96 : decode cX12_looks 96 = .ok (.aload_n 0, 1) := by decide +kernel
theorem dX12_looks_97 : decode cX12_looks 97 = .ok (.getfield 140, 3) := by decide +kernel
theorem dX12_looks_100 : decode cX12_looks 100 = .ok (.aload_n 0, 1) := by decide +kernel
theorem dX12_looks_101 : decode cX12_looks 101 = .ok (.getfield 149, 3) := by decide +kernel
theorem dX12_looks_104 : decode cX12_looks 104 = .ok (.iload 4, 2) := by decide +kernel
theorem dX12_looks_106 : decode cX12_looks 106 = .ok (.iaload, 1) := by decide +kernel
theorem dX12_looks_107 : decode cX12_looks 107 = .ok (.iaload, 1) := by decide +kernel
theorem dX12_looks_108 : decode cX12_looks 108 = .ok (.iastore, 1) := by decide +kernel
theorem dX12_looks_109 : decode cX12_looks 109 = .ok (.iinc 4 1, 3) := by decide +kernel
theorem dX12_looks_112 : decode cX12_looks 112 = .ok (.goto (-28), 3) := by decide +kernel
theorem dX12_looks_115 : decode cX12_looks 115 = .ok (.iconst 0, 1) := by decide +kernel
theorem dX12_looks_116 : decode cX12_looks 116 = .ok (.istore 4, 2) := by decide +kernel
theorem dX12_looks_118 : decode cX12_looks 118 = .ok (.iload 4, 2) := by decide +kernel
theorem dX12_looks_120 : decode cX12_looks 120 = .ok (.iconst 4, 1) := by decide +kernel
theorem dX12_looks_121 : decode cX12_looks 121 = .ok (.if_icmp .ge 27, 3) := by decide +kernel
theorem dX12_looks_124 : decode cX12_looks 124 = .ok (.aload_n 0, 1) := by decide +kernel
theorem dX12_looks_125 : decode cX12_looks 125 = .ok (.getfield 164, 3) := by decide +kernel
theorem dX12_looks_128 : decode cX12_looks 128 = .ok (.iload 4, 2) := by decide +kernel
theorem dX12_looks_130 : decode cX12_looks 130 = .ok (.aload_n 0, 1) := by decide +kernel
theorem dX12_looks_131 : decode cX12_looks 131 = .ok (.getfield 152, 3) := by decide +kernel
theorem dX12_looks_134 : decode cX12_looks 134 = .ok (.iconst 4, 1) := by decide +kernel
theorem dX12_looks_135 : decode cX12_looks 135 = .ok (.iload_n 1, 1) := by decide +kernel
theorem dX12_looks_136 : decode cX12_looks 136 = .ok (.imul, 1) := by decide +kernel
theorem dX12_looks_137 : decode cX12_looks 137 = .ok (.iload 4, 2) := by decide +kernel
theorem dX12_looks_139 : decode cX12_looks 139 = .ok (.iadd, 1) := by decide +kernel
theorem dX12_looks_140 : decode cX12_looks 140 = .ok (.iaload, 1) := by decide +kernel
theorem dX12_looks_141 : decode cX12_looks 141 = .ok (.iastore, 1) := by decide +kernel
theorem dX12_looks_142 : decode cX12_looks 142 = .ok (.iinc 4 1, 3) := by decide +kernel
theorem dX12_looks_145 : decode cX12_looks 145 = .ok (.goto (-27), 3) := by decide +kernel
theorem dX12_looks_148 : decode cX12_looks 148 = .ok (.return_, 1) := by decide +kernel
theorem dX12_goesThrough_0 : decode cX12_goesThrough 0 = .ok (.iload_n 1, 1) := by decide +kernel
theorem dX12_goesThrough_1 : decode cX12_goesThrough 1 = .ok (.aload_n 0, 1) := by decide +kernel
theorem dX12_goesThrough_2 : decode cX12_goesThrough 2 = .ok (.invokevirtual 368, 3) := by decide +kernel
theorem dX12_goesThrough_5 : decode cX12_goesThrough 5 = .ok (.if_icmp .ne 9, 3) := by decide +kernel
theorem dX12_goesThrough_8 : decode cX12_goesThrough 8 = .ok (.aload_n 0, 1) := by decide +kernel
theorem dX12_goesThrough_9 : decode cX12_goesThrough 9 = .ok (.iload_n 1, 1) := by decide +kernel
theorem dX12_goesThrough_10 : decode cX12_goesThrough 10 = .ok (.invokevirtual 446, 3) := by decide +kernel
theorem dX12_goesThrough_13 : decode cX12_goesThrough 13 = .ok (.return_, 1) := by decide +kernel
theorem dX12_goesThrough_14 : decode cX12_goesThrough 14 = .ok (.iconst 0, 1) := by decide +kernel
theorem dX12_goesThrough_15 : decode cX12_goesThrough 15 = .ok (.istore_n 2, 1) := by decide +kernel
theorem dX12_goesThrough_16 : decode cX12_goesThrough 16 = .ok (.iload_n 2, 1) := by decide +kernel
theorem dX12_goesThrough_17 : decode cX12_goesThrough 17 = .ok (.aload_n 0, 1) := by decide +kernel
theorem dX12_goesThrough_18 : decode cX12_goesThrough 18 = .ok (.getfield 422, 3) := by decide +kernel
theorem dX12_goesThrough_21 : decode cX12_goesThrough 21 = .ok (.if_icmp .ge 164, 3) := by decide +kernel
theorem dX12_goesThrough_24 : decode cX12_goesThrough 24 = .ok (.iload_n 1, 1) := by decide +kernel
theorem dX12_goesThrough_25 : decode cX12_goesThrough 25 = .ok (.ifCond .ne 7, 3) := by decide +kernel
theorem dX12_goesThrough_28 : decode cX12_goesThrough 28 = .ok (.iconst 0, 1) := by decide +kernel
theorem dX12_goesThrough_29 : decode cX12_goesThrough 29 = .ok (.goto 21, 3) := by decide +kernel
theorem dX12_goesThrough_32 : decode cX12_goesThrough 32 = .ok (.aload_n 0, 1) := by decide +kernel
theorem dX12_goesThrough_33 : decode cX12_goesThrough 33 = .ok (.getfield 146, 3) := by decide +kernel
theorem dX12_goesThrough_36 : decode cX12_goesThrough 36 = .ok (.bipush 24, 2) := by decide +kernel
theorem dX12_goesThrough_38 : decode cX12_goesThrough 38 = .ok (.aload_n 0, 1) := by decide +kernel
theorem dX12_goesThrough_39 : decode cX12_goesThrough 39 = .ok (.getfield 149, 3) := by decide +kernel
theorem dX12_goesThrough_42 : decode cX12_goesThrough 42 = .ok (.iload_n 1, 1) := by decide +kernel
theorem dX12_goesThrough_43 : decode cX12_goesThrough 43 = .ok (.iconst 1, 1) := by decide +kernel
theorem dX12_goesThrough_44 : decode cX12_goesThrough 44 = .ok (.isub, 1) := by decide +kernel
theorem dX12_goesThrough_45 : decode cX12_goesThrough 45 = .ok (.iaload, 1) := by decide +kernel
theorem dX12_goesThrough_46 : decode cX12_goesThrough 46 = .ok (.imul, 1) := by decide +kernel
theorem dX12_goesThrough_47 : decode cX12_goesThrough 47 = .ok (.iload_n 2, 1) := by decide +kernel
theorem dX12_goesThrough_48 : decode cX12_goesThrough 48 = .ok (.iadd, 1) := by decide +kernel
theorem dX12_goesThrough_49 : decode cX12_goesThrough 49 = .ok (.iaload, 1) := by decide +kernel
theorem dX12_goesThrough_50 : decode cX12_goesThrough 50 = .ok (.istore_n 3, 1) := by decide +kernel
theorem dX12_goesThrough_51 : decode cX12_goesThrough 51 = .ok (.aload_n 0, 1) := by decide +kernel
theorem dX12_goesThrough_52 : decode cX12_goesThrough 52 = .ok (.getfield 155, 3) := by decide +kernel
theorem dX12_goesThrough_55 : decode cX12_goesThrough 55 = .ok (.iload_n 1, 1) := by decide +kernel
theorem dX12_goesThrough_56 : decode cX12_goesThrough 56 = .ok (.iconst 1, 1) := by decide +kernel
theorem dX12_goesThrough_57 : decode cX12_goesThrough 57 = .ok (.iadd, 1) := by decide +kernel
theorem dX12_goesThrough_58 : decode cX12_goesThrough 58 = .ok (.aload_n 0, 1) := by decide +kernel
theorem dX12_goesThrough_59 : decode cX12_goesThrough 59 = .ok (.getfield 155, 3) := by decide +kernel
theorem dX12_goesThrough_62 : decode cX12_goesThrough 62 = .ok (.iload_n 1, 1) := by decide +kernel
theorem dX12_goesThrough_63 : decode cX12_goesThrough 63 = .ok (.iaload, 1) := by decide +kernel
theorem dX12_goesThrough_64 : decode cX12_goesThrough 64 = .ok (.iload_n 3, 1) := by decide +kernel
theorem dX12_goesThrough_65 : decode cX12_goesThrough 65 = .ok (.invokestatic 449, 3) := by decide +kernel
theorem dX12_goesThrough_68 : decode cX12_goesThrough 68 = .ok (.iadd, 1) := by decide +kernel
theorem dX12_goesThrough_69 : decode cX12_goesThrough 69 = .ok (.iastore, 1) := by decide +kernel
theorem dX12_goesThrough_70 : decode cX12_goesThrough 70 = .ok (.aload_n 0, 1) := by decide +kernel
theorem dX12_goesThrough_71 : decode cX12_goesThrough 71 = .ok (.getfield 155, 3) := by decide +kernel
theorem dX12_goesThrough_74 : decode cX12_goesThrough 74 = .ok (.iload_n 1, 1) := by decide +kernel
theorem dX12_goesThrough_75 : decode cX12_goesThrough 75 = .ok (.iconst 1, 1) := by decide +kernel
theorem dX12_goesThrough_76 : decode cX12_goesThrough 76 = .ok (.iadd, 1) := by decide +kernel
theorem dX12_goesThrough_77 : decode cX12_goesThrough 77 = .ok (.iaload, 1) := by decide +kernel
theorem dX12_goesThrough_78 : decode cX12_goesThrough 78 = .ok (.aload_n 0, 1) := by decide +kernel
theorem dX12_goesThrough_79 : decode cX12_goesThrough 79 = .ok (.getfield 452, 3) := by decide +kernel
theorem dX12_goesThrough_82 : decode cX12_goesThrough 82 = .ok (.if_icmp .gt 97, 3) := by decide +kernel
theorem dX12_goesThrough_85 : decode cX12_goesThrough 85 = .ok (.aload_n 0, 1) := by decide +kernel
theorem dX12_goesThrough_86 : decode cX12_goesThrough 86 = .ok (.getfield 149, 3) := by decide +kernel
theorem dX12_goesThrough_89 : decode cX12_goesThrough 89 = .ok (.iload_n 1, 1) := by decide +kernel
theorem dX12_goesThrough_90 : decode cX12_goesThrough 90 = .ok (.iload_n 2, 1) := by decide +kernel
theorem dX12_goesThrough_91 : decode cX12_goesThrough 91 = .ok (.iastore, 1) := by decide +kernel
theorem dX12_goesThrough_92 : decode cX12_goesThrough 92 = .ok (.iconst 0, 1) := by decide +kernel
theorem dX12_goesThrough_93 : decode cX12_goesThrough 93 = .ok (.istore 4, 2) := by decide +kernel
theorem dX12_goesThrough_95 : decode cX12_goesThrough 95 = .ok (.iload 4, 2) := by decide +kernel
theorem dX12_goesThrough_97 : decode cX12_goesThrough 97 = .ok (.aload_n 0, 1) := by decide +kernel
theorem dX12_goesThrough_98 : decode cX12_goesThrough 98 = .ok (.invokevirtual 334, 3) := by decide +kernel
theorem dX12_goesThrough_101 : decode cX12_goesThrough 101 = .ok (.if_icmp .ge 71, 3) := by decide +kernel
theorem dX12_goesThrough_104 : decode cX12_goesThrough 104 = .ok (.aload_n 0, 1) := by decide +kernel
theorem dX12_goesThrough_105 : decode cX12_goesThrough 105 = .ok (.getfield 152, 3) := by decide +kernel
theorem dX12_goesThrough_108 : decode cX12_goesThrough 108 = .ok (.iconst 4, 1) := by decide +kernel
theorem dX12_goesThrough_109 : decode cX12_goesThrough 109 = .ok (.iload_n 1, 1) := by decide +kernel
theorem dX12_goesThrough_110 : decode cX12_goesThrough 110 = .ok (.imul, 1) := by decide +kernel
theorem dX12_goesThrough_111 : decode cX12_goesThrough 111 = .ok (.iconst 4, 1) := by decide +kernel
theorem dX12_goesThrough_112 : decode cX12_goesThrough 112 = .ok (.iadd, 1) := by decide +kernel
theorem dX12_goesThrough_113 : decode cX12_goesThrough 113 = .ok (.iload 4, 2) := by decide +kernel
theorem dX12_goesThrough_115 : decode cX12_goesThrough 115 = .ok (.iadd, 1) := by decide +kernel
theorem dX12_goesThrough_116 : decode cX12_goesThrough 116 = .ok (.aload_n 0, 1) := by decide +kernel
theorem dX12_goesThrough_117 : decode cX12_goesThrough 117 = .ok (.getfield 152, 3) := by decide +kernel
theorem dX12_goesThrough_120 : decode cX12_goesThrough 120 = .ok (.iconst 4, 1) := by decide +kernel
theorem dX12_goesThrough_121 : decode cX12_goesThrough 121 = .ok (.iload_n 1, 1) := by decide +kernel
theorem dX12_goesThrough_122 : decode cX12_goesThrough 122 = .ok (.imul, 1) := by decide +kernel
theorem dX12_goesThrough_123 : decode cX12_goesThrough 123 = .ok (.iload 4, 2) := by decide +kernel
theorem dX12_goesThrough_125 : decode cX12_goesThrough 125 = .ok (.iadd, 1) := by decide +kernel
theorem dX12_goesThrough_126 : decode cX12_goesThrough 126 = .ok (.iaload, 1) := by decide +kernel
theorem dX12_goesThrough_127 : decode cX12_goesThrough 127 = .ok (.aload_n 0, 1) := by decide +kernel
theorem dX12_goesThrough_128 : decode cX12_goesThrough 128 = .ok (.getfield 143, 3) := by decide +kernel
theorem dX12_goesThrough_131 : decode cX12_goesThrough 131 = .ok (.bipush 96, 2) := by decide +kernel
theorem dX12_goesThrough_133 : decode cX12_goesThrough 133 = .ok (.iload_n 1, 1) := by decide +kernel
theorem dX12_goesThrough_134 : decode cX12_goesThrough 134 = .ok (.imul, 1) := by decide +kernel
theorem dX12_goesThrough_135 : decode cX12_goesThrough 135 = .ok (.iconst 4, 1) := by decide +kernel
theorem dX12_goesThrough_136 : decode cX12_goesThrough 136 = .ok (.iload_n 2, 1) := by decide +kernel
theorem dX12_goesThrough_137 : decode cX12_goesThrough 137 = .ok (.imul, 1) := by decide +kernel
theorem dX12_goesThrough_138 : decode cX12_goesThrough 138 = .ok (.iadd, 1) := by decide +kernel
theorem dX12_goesThrough_139 : decode cX12_goesThrough 139 = .ok (.iload 4, 2) := by decide +kernel
theorem dX12_goesThrough_141 : decode cX12_goesThrough 141 = .ok (.iadd, 1) := by decide +kernel
theorem dX12_goesThrough_142 : decode cX12_goesThrough 142 = .ok (.iaload, 1) := by decide +kernel
theorem dX12_goesThrough_143 : decode cX12_goesThrough 143 = .ok (.iadd, 1) := by decide +kernel
theorem dX12_goesThrough_144 : decode cX12_goesThrough 144 = .ok (.iload_n 3, 1) := by decide +kernel
theorem dX12_goesThrough_145 : decode cX12_goesThrough 145 = .ok (.iload 4, 2) := by decide +kernel
theorem dX12_goesThrough_147 : decode cX12_goesThrough 147 = .ok (.ishr, 1) := by decide +kernel
theorem dX12_goesThrough_148 : decode cX12_goesThrough 148 = .ok (.iconst 1, 1) := by decide +kernel
theorem dX12_goesThrough_149 : decode cX12_goesThrough 149 = .ok (.iand, 1) := by decide +kernel
theorem dX12_goesThrough_150 : decode cX12_goesThrough 150 = .ok (.iconst 1, 1) := by decide +kernel
theorem dX12_goesThrough_151 : decode cX12_goesThrough 151 = .ok (.if_icmp .ne 12, 3) := by decide +kernel
theorem dX12_goesThrough_154 : decode cX12_goesThrough 154 = .ok (.aload_n 0, 1) := by decide +kernel
theorem dX12_goesThrough_155 : decode cX12_goesThrough 155 = .ok (.getfield 97, 3) := by decide +kernel
theorem dX12_goesThrough_158 : decode cX12_goesThrough 158 = .ok (.iconst 4, 1) := by decide +kernel
theorem dX12_goesThrough_159 : decode cX12_goesThrough 159 = .ok (.iaload, 1) := by decide +kernel
theorem dX12_goesThrough_160 : decode cX12_goesThrough 160 = .ok (.goto 4, 3) := by decide +kernel
theorem dX12_goesThrough_163 : decode cX12_goesThrough 163 = .ok (.iconst 0, 1) := by decide +kernel
theorem dX12_goesThrough_164 : decode cX12_goesThrough 164 = .ok (.isub, 1) := by decide +kernel
theorem dX12_goesThrough_165 : decode cX12_goesThrough 165 = .ok (.iastore, 1) := by decide +kernel
theorem dX12_goesThrough_166 : decode cX12_goesThrough 166 = .ok (.iinc 4 1, 3) := by decide +kernel
theorem dX12_goesThrough_169 : decode cX12_goesThrough 169 = .ok (.goto (-74), 3) := by decide +kernel
theorem dX12_goesThrough_172 : decode cX12_goesThrough 172 = .ok (.aload_n 0, 1) := by decide +kernel
theorem dX12_goesThrough_173 : decode cX12_goesThrough 173 = .ok (.iload_n 1, 1) := by decide +kernel
theorem dX12_goesThrough_174 : decode cX12_goesThrough 174 = .ok (.iconst 1, 1) := by decide +kernel
theorem dX12_goesThrough_175 : decode cX12_goesThrough 175 = .ok (.iadd, 1) := by decide +kernel
theorem dX12_goesThrough_176 : decode cX12_goesThrough 176 = .ok (.invokevirtual 455, 3) := by decide +kernel
theorem dX12_goesThrough_179 : decode cX12_goesThrough 179 = .ok (.iinc 2 1, 3) := by decide +kernel
theorem dX12_goesThrough_182 : decode cX12_goesThrough 182 = .ok (.goto (-166), 3) := by decide +kernel
theorem dX12_goesThrough_185 : decode cX12_goesThrough 185 = .ok (.return_, 1) := by decide +kernel
theorem dX12_seeks_0 : decode cX12_seeks 0 = .ok (.aload_n 0, 1) := by decide +kernel
theorem dX12_seeks_1 : decode cX12_seeks 1 = .ok (.iload_n 1, 1) := by decide +kernel
theorem dX12_seeks_2 : decode cX12_seeks 2 = .ok (.putfield 428, 3) := by decide +kernel
theorem dX12_seeks_5 : decode cX12_seeks 5 = .ok (.aload_n 0, 1) := by decide +kernel
theorem dX12_seeks_6 : decode cX12_seeks 6 = .ok (.iload_n 2, 1) := by decide +kernel
theorem dX12_seeks_7 : decode cX12_seeks 7 = .ok (.putfield 452, 3) := by decide +kernel
theorem dX12_seeks_10 : decode cX12_seeks 10 = .ok (.aload_n 0, 1) := by decide +kernel
theorem dX12_seeks_11 : decode cX12_seeks 11 = .ok (.iconst 0, 1) := by decide +kernel
theorem dX12_seeks_12 : decode cX12_seeks 12 = .ok (.putfield 437, 3) := by decide +kernel
theorem dX12_seeks_15 : decode cX12_seeks 15 = .ok (.aload_n 0, 1) := by decide +kernel
theorem dX12_seeks_16 : decode cX12_seeks 16 = .ok (.getfield 155, 3) := by decide +kernel
theorem dX12_seeks_19 : decode cX12_seeks 19 = .ok (.iconst 0, 1) := by decide +kernel
theorem dX12_seeks_20 : decode cX12_seeks 20 = .ok (.iconst 0, 1) := by decide +kernel
theorem dX12_seeks_21 : decode cX12_seeks 21 = .ok (.iastore, 1) := by decide +kernel
theorem dX12_seeks_22 : decode cX12_seeks 22 = .ok (.iconst 0, 1) := by decide +kernel
theorem dX12_seeks_23 : decode cX12_seeks 23 = .ok (.istore_n 3, 1) := by decide +kernel
theorem dX12_seeks_24 : decode cX12_seeks 24 = .ok (.iload_n 3, 1) := by decide +kernel
theorem dX12_seeks_25 : decode cX12_seeks 25 = .ok (.iconst 4, 1) := by decide +kernel
theorem dX12_seeks_26 : decode cX12_seeks 26 = .ok (.if_icmp .ge 21, 3) := by decide +kernel
theorem dX12_seeks_29 : decode cX12_seeks 29 = .ok (.aload_n 0, 1) := by decide +kernel
theorem dX12_seeks_30 : decode cX12_seeks 30 = .ok (.getfield 152, 3) := by decide +kernel
theorem dX12_seeks_33 : decode cX12_seeks 33 = .ok (.iload_n 3, 1) := by decide +kernel
theorem dX12_seeks_34 : decode cX12_seeks 34 = .ok (.aload_n 0, 1) := by decide +kernel
theorem dX12_seeks_35 : decode cX12_seeks 35 = .ok (.getfield 158, 3) := by decide +kernel
theorem dX12_seeks_38 : decode cX12_seeks 38 = .ok (.iload_n 3, 1) := by decide +kernel
theorem dX12_seeks_39 : decode cX12_seeks 39 = .ok (.iaload, 1) := by decide +kernel
theorem dX12_seeks_40 : decode cX12_seeks 40 = .ok (.iastore, 1) := by decide +kernel
theorem dX12_seeks_41 : decode cX12_seeks 41 = .ok (.iinc 3 1, 3) := by decide +kernel
theorem dX12_seeks_44 : decode cX12_seeks 44 = .ok (.goto (-20), 3) := by decide +kernel
theorem dX12_seeks_47 : decode cX12_seeks 47 = .ok (.aload_n 0, 1) := by decide +kernel
theorem dX12_seeks_48 : decode cX12_seeks 48 = .ok (.iconst 0, 1) := by decide +kernel
theorem dX12_seeks_49 : decode cX12_seeks 49 = .ok (.invokevirtual 455, 3) := by decide +kernel
theorem dX12_seeks_52 : decode cX12_seeks 52 = .ok (.aload_n 0, 1) := by decide +kernel
theorem dX12_seeks_53 : decode cX12_seeks 53 = .ok (.getfield 437, 3) := by decide +kernel
theorem dX12_seeks_56 : decode cX12_seeks 56 = .ok (.ireturn, 1) := by decide +kernel
theorem dX12_evenest_0 : decode cX12_evenest 0 = .ok (.aload_n 0, 1) := by decide +kernel
theorem dX12_evenest_1 : decode cX12_evenest 1 = .ok (.iconst 0, 1) := by decide +kernel
theorem dX12_evenest_2 : decode cX12_evenest 2 = .ok (.putfield 1, 3) := by decide +kernel
theorem dX12_evenest_5 : decode cX12_evenest 5 = .ok (.aload_n 0, 1) := by decide +kernel
theorem dX12_evenest_6 : decode cX12_evenest 6 = .ok (.invokevirtual 458, 3) := by decide +kernel
theorem dX12_evenest_9 : decode cX12_evenest 9 = .ok (.iload_n 1, 1) := by decide +kernel
theorem dX12_evenest_10 : decode cX12_evenest 10 = .ok (.iconst 0, 1) := by decide +kernel
theorem dX12_evenest_11 : decode cX12_evenest 11 = .ok (.bipush 12, 2) := by decide +kernel
theorem dX12_evenest_13 : decode cX12_evenest 13 = .ok (.invokestatic 308, 3) := by decide +kernel
theorem dX12_evenest_16 : decode cX12_evenest 16 = .ok (.ifCond .eq 33, 3) := by decide +kernel
theorem dX12_evenest_19 : decode cX12_evenest 19 = .ok (.iload_n 2, 1) := by decide +kernel
theorem dX12_evenest_20 : decode cX12_evenest 20 = .ok (.iconst 0, 1) := by decide +kernel
theorem dX12_evenest_21 : decode cX12_evenest 21 = .ok (.iconst 1, 1) := by decide +kernel
theorem dX12_evenest_22 : decode cX12_evenest 22 = .ok (.aload_n 0, 1) := by decide +kernel
theorem dX12_evenest_23 : decode cX12_evenest 23 = .ok (.invokevirtual 368, 3) := by decide +kernel
theorem dX12_evenest_26 : decode cX12_evenest 26 = .ok (.iadd, 1) := by decide +kernel
theorem dX12_evenest_27 : decode cX12_evenest 27 = .ok (.invokestatic 308, 3) := by decide +kernel
theorem dX12_evenest_30 : decode cX12_evenest 30 = .ok (.ifCond .eq 19, 3) := by decide +kernel
theorem dX12_evenest_33 : decode cX12_evenest 33 = .ok (.aload_n 0, 1) := by decide +kernel
theorem dX12_evenest_34 : decode cX12_evenest 34 = .ok (.invokevirtual 334, 3) := by decide +kernel
theorem dX12_evenest_37 : decode cX12_evenest 37 = .ok (.ifCond .eq 12, 3) := by decide +kernel
theorem dX12_evenest_40 : decode cX12_evenest 40 = .ok (.aload_n 0, 1) := by decide +kernel
theorem dX12_evenest_41 : decode cX12_evenest 41 = .ok (.iconst 0, 1) := by decide +kernel
theorem dX12_evenest_42 : decode cX12_evenest 42 = .ok (.iload_n 1, 1) := by decide +kernel
theorem dX12_evenest_43 : decode cX12_evenest 43 = .ok (.invokevirtual 461, 3) := by decide +kernel
theorem dX12_evenest_46 : decode cX12_evenest 46 = .ok (.ifCond .ne 5, 3) := by decide +kernel
theorem dX12_evenest_49 : decode cX12_evenest 49 = .ok (.iconst (-1), 1) := by decide +kernel
theorem dX12_evenest_50 : decode cX12_evenest 50 = .ok (.ireturn, 1) := by decide +kernel
theorem dX12_evenest_51 : decode cX12_evenest 51 = .ok (.iload_n 2, 1) := by decide +kernel
theorem dX12_evenest_52 : decode cX12_evenest 52 = .ok (.ifCond .ne 10, 3) := by decide +kernel
theorem dX12_evenest_55 : decode cX12_evenest 55 = .ok (.aload_n 0, 1) := by decide +kernel
theorem dX12_evenest_56 : decode cX12_evenest 56 = .ok (.getfield 440, 3) := by decide +kernel
theorem dX12_evenest_59 : decode cX12_evenest 59 = .ok (.goto 23, 3) := by decide +kernel
theorem dX12_evenest_62 : decode cX12_evenest 62 = .ok (.iload_n 2, 1) := by decide +kernel
theorem dX12_evenest_63 : decode cX12_evenest 63 = .ok (.iconst 1, 1) := by decide +kernel
theorem dX12_evenest_64 : decode cX12_evenest 64 = .ok (.if_icmp .ne 10, 3) := by decide +kernel
theorem dX12_evenest_67 : decode cX12_evenest 67 = .ok (.aload_n 0, 1) := by decide +kernel
theorem dX12_evenest_68 : decode cX12_evenest 68 = .ok (.getfield 443, 3) := by decide +kernel
theorem dX12_evenest_71 : decode cX12_evenest 71 = .ok (.goto 11, 3) := by decide +kernel
theorem dX12_evenest_74 : decode cX12_evenest 74 = .ok (.aload_n 0, 1) := by decide +kernel
theorem dX12_evenest_75 : decode cX12_evenest 75 = .ok (.getfield 161, 3) := by decide +kernel
theorem dX12_evenest_78 : decode cX12_evenest 78 = .ok (.iload_n 2, 1) := by decide +kernel
theorem dX12_evenest_79 : decode cX12_evenest 79 = .ok (.iconst 2, 1) := by decide +kernel
theorem dX12_evenest_80 : decode cX12_evenest 80 = .ok (.isub, 1) := by decide +kernel
theorem dX12_evenest_81 : decode cX12_evenest 81 = .ok (.iaload, 1) := by decide +kernel
theorem dX12_evenest_82 : decode cX12_evenest 82 = .ok (.ireturn, 1) := by decide +kernel
theorem dX12_most_0 : decode cX12_most 0 = .ok (.aload_n 0, 1) := by decide +kernel
theorem dX12_most_1 : decode cX12_most 1 = .ok (.invokevirtual 458, 3) := by decide +kernel
theorem dX12_most_4 : decode cX12_most 4 = .ok (.aload_n 0, 1) := by decide +kernel
theorem dX12_most_5 : decode cX12_most 5 = .ok (.iload_n 1, 1) := by decide +kernel
theorem dX12_most_6 : decode cX12_most 6 = .ok (.iconst (-1), 1) := by decide +kernel
theorem dX12_most_7 : decode cX12_most 7 = .ok (.aload_n 0, 1) := by decide +kernel
theorem dX12_most_8 : decode cX12_most 8 = .ok (.invokevirtual 368, 3) := by decide +kernel
theorem dX12_most_11 : decode cX12_most 11 = .ok (.iconst 1, 1) := by decide +kernel
theorem dX12_most_12 : decode cX12_most 12 = .ok (.isub, 1) := by decide +kernel
theorem dX12_most_13 : decode cX12_most 13 = .ok (.invokestatic 308, 3) := by decide +kernel
theorem dX12_most_16 : decode cX12_most 16 = .ok (.ifCond .eq 24, 3) := by decide +kernel
theorem dX12_most_19 : decode cX12_most 19 = .ok (.aload_n 0, 1) := by decide +kernel
theorem dX12_most_20 : decode cX12_most 20 = .ok (.invokevirtual 334, 3) := by decide +kernel
theorem dX12_most_23 : decode cX12_most 23 = .ok (.ifCond .le 17, 3) := by decide +kernel
theorem dX12_most_26 : decode cX12_most 26 = .ok (.aload_n 0, 1) := by decide +kernel
theorem dX12_most_27 : decode cX12_most 27 = .ok (.iconst 1, 1) := by decide +kernel
theorem dX12_most_28 : decode cX12_most 28 = .ok (.bipush 12, 2) := by decide +kernel
theorem dX12_most_30 : decode cX12_most 30 = .ok (.invokevirtual 461, 3) := by decide +kernel
theorem dX12_most_33 : decode cX12_most 33 = .ok (.ifCond .eq 7, 3) := by decide +kernel
theorem dX12_most_36 : decode cX12_most 36 = .ok (.iconst 0, 1) := by decide +kernel
theorem dX12_most_37 : decode cX12_most 37 = .ok (.goto 4, 3) := by decide +kernel
theorem dX12_most_40 : decode cX12_most 40 = .ok (.iconst 1, 1) := by decide +kernel
theorem dX12_most_41 : decode cX12_most 41 = .ok (.putfield 1, 3) := by decide +kernel
theorem dX12_most_44 : decode cX12_most 44 = .ok (.aload_n 0, 1) := by decide +kernel
theorem dX12_most_45 : decode cX12_most 45 = .ok (.getfield 1, 3) := by decide +kernel
theorem dX12_most_48 : decode cX12_most 48 = .ok (.ifCond .le 7, 3) := by decide +kernel
theorem dX12_most_51 : decode cX12_most 51 = .ok (.iconst 0, 1) := by decide +kernel
theorem dX12_most_52 : decode cX12_most 52 = .ok (.goto 21, 3) := by decide +kernel
theorem dX12_most_55 : decode cX12_most 55 = .ok (.iload_n 1, 1) := by decide +kernel
theorem dX12_most_56 : decode cX12_most 56 = .ok (.ifCond .ge 11, 3) := by decide +kernel
theorem dX12_most_59 : decode cX12_most 59 = .ok (.aload_n 0, 1) := by decide +kernel
theorem dX12_most_60 : decode cX12_most 60 = .ok (.getfield 440, 3) := by decide +kernel
theorem dX12_most_63 : decode cX12_most 63 = .ok (.ineg, 1) := by decide +kernel
theorem dX12_most_64 : decode cX12_most 64 = .ok (.goto 9, 3) := by decide +kernel
theorem dX12_most_67 : decode cX12_most 67 = .ok (.aload_n 0, 1) := by decide +kernel
theorem dX12_most_68 : decode cX12_most 68 = .ok (.getfield 161, 3) := by decide +kernel
theorem dX12_most_71 : decode cX12_most 71 = .ok (.iload_n 1, 1) := by decide +kernel
theorem dX12_most_72 : decode cX12_most 72 = .ok (.iaload, 1) := by decide +kernel
theorem dX12_most_73 : decode cX12_most 73 = .ok (.ireturn, 1) := by decide +kernel
theorem dX12_worst_0 : decode cX12_worst 0 = .ok (.aload_n 0, 1) := by decide +kernel
theorem dX12_worst_1 : decode cX12_worst 1 = .ok (.invokevirtual 458, 3) := by decide +kernel
theorem dX12_worst_4 : decode cX12_worst 4 = .ok (.aload_n 0, 1) := by decide +kernel
theorem dX12_worst_5 : decode cX12_worst 5 = .ok (.aload_n 0, 1) := by decide +kernel
theorem dX12_worst_6 : decode cX12_worst 6 = .ok (.invokevirtual 334, 3) := by decide +kernel
theorem dX12_worst_9 : decode cX12_worst 9 = .ok (.ifCond .le 17, 3) := by decide +kernel
theorem dX12_worst_12 : decode cX12_worst 12 = .ok (.aload_n 0, 1) := by decide +kernel
theorem dX12_worst_13 : decode cX12_worst 13 = .ok (.iconst 2, 1) := by decide +kernel
theorem dX12_worst_14 : decode cX12_worst 14 = .ok (.bipush 12, 2) := by decide +kernel
theorem dX12_worst_16 : decode cX12_worst 16 = .ok (.invokevirtual 461, 3) := by decide +kernel
theorem dX12_worst_19 : decode cX12_worst 19 = .ok (.ifCond .eq 7, 3) := by decide +kernel
theorem dX12_worst_22 : decode cX12_worst 22 = .ok (.iconst 0, 1) := by decide +kernel
theorem dX12_worst_23 : decode cX12_worst 23 = .ok (.goto 4, 3) := by decide +kernel
theorem dX12_worst_26 : decode cX12_worst 26 = .ok (.iconst 1, 1) := by decide +kernel
theorem dX12_worst_27 : decode cX12_worst 27 = .ok (.putfield 1, 3) := by decide +kernel
theorem dX12_worst_30 : decode cX12_worst 30 = .ok (.aload_n 0, 1) := by decide +kernel
theorem dX12_worst_31 : decode cX12_worst 31 = .ok (.getfield 1, 3) := by decide +kernel
theorem dX12_worst_34 : decode cX12_worst 34 = .ok (.ifCond .le 7, 3) := by decide +kernel
theorem dX12_worst_37 : decode cX12_worst 37 = .ok (.iconst 0, 1) := by decide +kernel
theorem dX12_worst_38 : decode cX12_worst 38 = .ok (.goto 8, 3) := by decide +kernel
theorem dX12_worst_41 : decode cX12_worst 41 = .ok (.aload_n 0, 1) := by decide +kernel
theorem dX12_worst_42 : decode cX12_worst 42 = .ok (.getfield 440, 3) := by decide +kernel
theorem dX12_worst_45 : decode cX12_worst 45 = .ok (.ineg, 1) := by decide +kernel
theorem dX12_worst_46 : decode cX12_worst 46 = .ok (.ireturn, 1) := by decide +kernel
theorem dX12_after_0 : decode cX12_after 0 = .ok (.aload_n 0, 1) := by decide +kernel
theorem dX12_after_1 : decode cX12_after 1 = .ok (.iconst 0, 1) := by decide +kernel
theorem dX12_after_2 : decode cX12_after 2 = .ok (.putfield 1, 3) := by decide +kernel
theorem dX12_after_5 : decode cX12_after 5 = .ok (.aload_n 0, 1) := by decide +kernel
theorem dX12_after_6 : decode cX12_after 6 = .ok (.invokevirtual 458, 3) := by decide +kernel
theorem dX12_after_9 : decode cX12_after 9 = .ok (.iconst 1, 1) := by decide +kernel
theorem dX12_after_10 : decode cX12_after 10 = .ok (.istore_n 1, 1) := by decide +kernel
theorem dX12_after_11 : decode cX12_after 11 = .ok (.iload_n 1, 1) := by decide +kernel
theorem dX12_after_12 : decode cX12_after 12 = .ok (.bipush 20, 2) := by decide +kernel
theorem dX12_after_14 : decode cX12_after 14 = .ok (.if_icmp .gt 62, 3) := by decide +kernel
theorem dX12_after_17 : decode cX12_after 17 = .ok (.aload_n 0, 1) := by decide +kernel
theorem dX12_after_18 : decode cX12_after 18 = .ok (.invokevirtual 334, 3) := by decide +kernel
theorem dX12_after_21 : decode cX12_after 21 = .ok (.ifCond .le 55, 3) := by decide +kernel
theorem dX12_after_24 : decode cX12_after 24 = .ok (.aload_n 0, 1) := by decide +kernel
theorem dX12_after_25 : decode cX12_after 25 = .ok (.iconst 0, 1) := by decide +kernel
theorem dX12_after_26 : decode cX12_after 26 = .ok (.bipush 12, 2) := by decide +kernel
theorem dX12_after_28 : decode cX12_after 28 = .ok (.invokevirtual 461, 3) := by decide +kernel
theorem dX12_after_31 : decode cX12_after 31 = .ok (.ifCond .ne 5, 3) := by decide +kernel
theorem dX12_after_34 : decode cX12_after 34 = .ok (.iconst (-1), 1) := by decide +kernel
theorem dX12_after_35 : decode cX12_after 35 = .ok (.ireturn, 1) := by decide +kernel
theorem dX12_after_36 : decode cX12_after 36 = .ok (.aload_n 0, 1) := by decide +kernel
theorem dX12_after_37 : decode cX12_after 37 = .ok (.getfield 440, 3) := by decide +kernel
theorem dX12_after_40 : decode cX12_after 40 = .ok (.ifCond .ne 5, 3) := by decide +kernel
theorem dX12_after_43 : decode cX12_after 43 = .ok (.iload_n 1, 1) := by decide +kernel
theorem dX12_after_44 : decode cX12_after 44 = .ok (.ireturn, 1) := by decide +kernel
theorem dX12_after_45 : decode cX12_after 45 = .ok (.iconst 0, 1) := by decide +kernel
theorem dX12_after_46 : decode cX12_after 46 = .ok (.istore_n 2, 1) := by decide +kernel
theorem dX12_after_47 : decode cX12_after 47 = .ok (.iload_n 2, 1) := by decide +kernel
theorem dX12_after_48 : decode cX12_after 48 = .ok (.iconst 4, 1) := by decide +kernel
theorem dX12_after_49 : decode cX12_after 49 = .ok (.if_icmp .ge 21, 3) := by decide +kernel
theorem dX12_after_52 : decode cX12_after 52 = .ok (.aload_n 0, 1) := by decide +kernel
theorem dX12_after_53 : decode cX12_after 53 = .ok (.getfield 158, 3) := by decide +kernel
theorem dX12_after_56 : decode cX12_after 56 = .ok (.iload_n 2, 1) := by decide +kernel
theorem dX12_after_57 : decode cX12_after 57 = .ok (.aload_n 0, 1) := by decide +kernel
theorem dX12_after_58 : decode cX12_after 58 = .ok (.getfield 164, 3) := by decide +kernel
theorem dX12_after_61 : decode cX12_after 61 = .ok (.iload_n 2, 1) := by decide +kernel
theorem dX12_after_62 : decode cX12_after 62 = .ok (.iaload, 1) := by decide +kernel
theorem dX12_after_63 : decode cX12_after 63 = .ok (.iastore, 1) := by decide +kernel
theorem dX12_after_64 : decode cX12_after 64 = .ok (.iinc 2 1, 3) := by decide +kernel
theorem dX12_after_67 : decode cX12_after 67 = .ok (.goto (-20), 3) := by decide +kernel
theorem dX12_after_70 : decode cX12_after 70 = .ok (.iinc 1 1, 3) := by decide +kernel
theorem dX12_after_73 : decode cX12_after 73 = .ok (.goto (-62), 3) := by decide +kernel
theorem dX12_after_76 : decode cX12_after 76 = .ok (.iconst (-1), 1) := by decide +kernel
theorem dX12_after_77 : decode cX12_after 77 = .ok (.ireturn, 1) := by decide +kernel
theorem dX12_addUp_0 : decode cX12_addUp 0 = .ok (.aload_n 0, 1) := by decide +kernel
theorem dX12_addUp_1 : decode cX12_addUp 1 = .ok (.invokevirtual 334, 3) := by decide +kernel
theorem dX12_addUp_4 : decode cX12_addUp 4 = .ok (.aload_n 0, 1) := by decide +kernel
theorem dX12_addUp_5 : decode cX12_addUp 5 = .ok (.invokevirtual 331, 3) := by decide +kernel
theorem dX12_addUp_8 : decode cX12_addUp 8 = .ok (.if_icmp .ne 7, 3) := by decide +kernel
theorem dX12_addUp_11 : decode cX12_addUp 11 = .ok (.iconst 1, 1) := by decide +kernel
theorem dX12_addUp_12 : decode cX12_addUp 12 = .ok (.goto 4, 3) := by decide +kernel
theorem dX12_addUp_15 : decode cX12_addUp 15 = .ok (.iconst 0, 1) := by decide +kernel
theorem dX12_addUp_16 : decode cX12_addUp 16 = .ok (.istore_n 2, 1) := by decide +kernel
theorem dX12_addUp_17 : decode cX12_addUp 17 = .ok (.iconst 0, 1) := by decide +kernel
theorem dX12_addUp_18 : decode cX12_addUp 18 = .ok (.istore_n 3, 1) := by decide +kernel
theorem dX12_addUp_19 : decode cX12_addUp 19 = .ok (.iload_n 3, 1) := by decide +kernel
theorem dX12_addUp_20 : decode cX12_addUp 20 = .ok (.aload_n 0, 1) := by decide +kernel
theorem dX12_addUp_21 : decode cX12_addUp 21 = .ok (.invokevirtual 331, 3) := by decide +kernel
theorem dX12_addUp_24 : decode cX12_addUp 24 = .ok (.if_icmp .ge 93, 3) := by decide +kernel
theorem dX12_addUp_27 : decode cX12_addUp 27 = .ok (.iload_n 2, 1) := by decide +kernel
theorem dX12_addUp_28 : decode cX12_addUp 28 = .ok (.ifCond .eq 89, 3) := by decide +kernel
theorem dX12_addUp_31 : decode cX12_addUp 31 = .ok (.iconst 0, 1) := by decide +kernel
theorem dX12_addUp_32 : decode cX12_addUp 32 = .ok (.istore 4, 2) := by decide +kernel
theorem dX12_addUp_34 : decode cX12_addUp 34 = .ok (.iconst 0, 1) := by decide +kernel
theorem dX12_addUp_35 : decode cX12_addUp 35 = .ok (.istore 5, 2) := by decide +kernel
theorem dX12_addUp_37 : decode cX12_addUp 37 = .ok (.iconst 0, 1) := by decide +kernel
theorem dX12_addUp_38 : decode cX12_addUp 38 = .ok (.istore 6, 2) := by decide +kernel
theorem dX12_addUp_40 : decode cX12_addUp 40 = .ok (.iload 6, 2) := by decide +kernel
theorem dX12_addUp_42 : decode cX12_addUp 42 = .ok (.aload_n 0, 1) := by decide +kernel
theorem dX12_addUp_43 : decode cX12_addUp 43 = .ok (.invokevirtual 331, 3) := by decide +kernel
theorem dX12_addUp_46 : decode cX12_addUp 46 = .ok (.if_icmp .ge 47, 3) := by decide +kernel
theorem dX12_addUp_49 : decode cX12_addUp 49 = .ok (.iload 4, 2) := by decide +kernel
theorem dX12_addUp_51 : decode cX12_addUp 51 = .ok (.aload_n 0, 1) := by decide +kernel
theorem dX12_addUp_52 : decode cX12_addUp 52 = .ok (.getfield 130, 3) := by decide +kernel
theorem dX12_addUp_55 : decode cX12_addUp 55 = .ok (.bipush 14, 2) := by decide +kernel
theorem dX12_addUp_57 : decode cX12_addUp 57 = .ok (.iconst 4, 1) := by decide +kernel
theorem dX12_addUp_58 : decode cX12_addUp 58 = .ok (.iload_n 3, 1) := by decide +kernel
theorem dX12_addUp_59 : decode cX12_addUp 59 = .ok (.imul, 1) := by decide +kernel
theorem dX12_addUp_60 : decode cX12_addUp 60 = .ok (.iadd, 1) := by decide +kernel
theorem dX12_addUp_61 : decode cX12_addUp 61 = .ok (.iload 6, 2) := by decide +kernel
theorem dX12_addUp_63 : decode cX12_addUp 63 = .ok (.iadd, 1) := by decide +kernel
theorem dX12_addUp_64 : decode cX12_addUp 64 = .ok (.iaload, 1) := by decide +kernel
theorem dX12_addUp_65 : decode cX12_addUp 65 = .ok (.iadd, 1) := by decide +kernel
theorem dX12_addUp_66 : decode cX12_addUp 66 = .ok (.istore 4, 2) := by decide +kernel
theorem dX12_addUp_68 : decode cX12_addUp 68 = .ok (.iload 5, 2) := by decide +kernel
theorem dX12_addUp_70 : decode cX12_addUp 70 = .ok (.aload_n 0, 1) := by decide +kernel
theorem dX12_addUp_71 : decode cX12_addUp 71 = .ok (.getfield 130, 3) := by decide +kernel
theorem dX12_addUp_74 : decode cX12_addUp 74 = .ok (.bipush 14, 2) := by decide +kernel
theorem dX12_addUp_76 : decode cX12_addUp 76 = .ok (.iconst 4, 1) := by decide +kernel
theorem dX12_addUp_77 : decode cX12_addUp 77 = .ok (.iload 6, 2) := by decide +kernel
theorem dX12_addUp_79 : decode cX12_addUp 79 = .ok (.imul, 1) := by decide +kernel
theorem dX12_addUp_80 : decode cX12_addUp 80 = .ok (.iadd, 1) := by decide +kernel
theorem dX12_addUp_81 : decode cX12_addUp 81 = .ok (.iload_n 3, 1) := by decide +kernel
theorem dX12_addUp_82 : decode cX12_addUp 82 = .ok (.iadd, 1) := by decide +kernel
theorem dX12_addUp_83 : decode cX12_addUp 83 = .ok (.iaload, 1) := by decide +kernel
theorem dX12_addUp_84 : decode cX12_addUp 84 = .ok (.iadd, 1) := by decide +kernel
theorem dX12_addUp_85 : decode cX12_addUp 85 = .ok (.istore 5, 2) := by decide +kernel
theorem dX12_addUp_87 : decode cX12_addUp 87 = .ok (.iinc 6 1, 3) := by decide +kernel
theorem dX12_addUp_90 : decode cX12_addUp 90 = .ok (.goto (-50), 3) := by decide +kernel
theorem dX12_addUp_93 : decode cX12_addUp 93 = .ok (.iload 4, 2) := by decide +kernel
theorem dX12_addUp_95 : decode cX12_addUp 95 = .ok (.iload_n 1, 1) := by decide +kernel
theorem dX12_addUp_96 : decode cX12_addUp 96 = .ok (.if_icmp .ne 13, 3) := by decide +kernel
theorem dX12_addUp_99 : decode cX12_addUp 99 = .ok (.iload 5, 2) := by decide +kernel
theorem dX12_addUp_101 : decode cX12_addUp 101 = .ok (.iload_n 1, 1) := by decide +kernel
theorem dX12_addUp_102 : decode cX12_addUp 102 = .ok (.if_icmp .ne 7, 3) := by decide +kernel
theorem dX12_addUp_105 : decode cX12_addUp 105 = .ok (.iconst 1, 1) := by decide +kernel
theorem dX12_addUp_106 : decode cX12_addUp 106 = .ok (.goto 4, 3) := by decide +kernel
theorem dX12_addUp_109 : decode cX12_addUp 109 = .ok (.iconst 0, 1) := by decide +kernel
theorem dX12_addUp_110 : decode cX12_addUp 110 = .ok (.istore_n 2, 1) := by decide +kernel
theorem dX12_addUp_111 : decode cX12_addUp 111 = .ok (.iinc 3 1, 3) := by decide +kernel
theorem dX12_addUp_114 : decode cX12_addUp 114 = .ok (.goto (-95), 3) := by decide +kernel
theorem dX12_addUp_117 : decode cX12_addUp 117 = .ok (.iload_n 2, 1) := by decide +kernel
theorem dX12_addUp_118 : decode cX12_addUp 118 = .ok (.ireturn, 1) := by decide +kernel
theorem dX12_leastLeft_0 : decode cX12_leastLeft 0 = .ok (.ldc_w 464, 3) := by decide +kernel
theorem dX12_leastLeft_3 : decode cX12_leastLeft 3 = .ok (.istore_n 1, 1) := by decide +kernel
theorem dX12_leastLeft_4 : decode cX12_leastLeft 4 = .ok (.iconst 0, 1) := by decide +kernel
theorem dX12_leastLeft_5 : decode cX12_leastLeft 5 = .ok (.istore_n 2, 1) := by decide +kernel
theorem dX12_leastLeft_6 : decode cX12_leastLeft 6 = .ok (.iload_n 2, 1) := by decide +kernel
theorem dX12_leastLeft_7 : decode cX12_leastLeft 7 = .ok (.aload_n 0, 1) := by decide +kernel
theorem dX12_leastLeft_8 : decode cX12_leastLeft 8 = .ok (.invokevirtual 334, 3) := by decide +kernel
theorem dX12_leastLeft_11 : decode cX12_leastLeft 11 = .ok (.if_icmp .ge 48, 3) := by decide +kernel
theorem dX12_leastLeft_14 : decode cX12_leastLeft 14 = .ok (.aload_n 0, 1) := by decide +kernel
theorem dX12_leastLeft_15 : decode cX12_leastLeft 15 = .ok (.getfield 167, 3) := by decide +kernel
theorem dX12_leastLeft_18 : decode cX12_leastLeft 18 = .ok (.iconst 4, 1) := by decide +kernel
theorem dX12_leastLeft_19 : decode cX12_leastLeft 19 = .ok (.iload_n 2, 1) := by decide +kernel
theorem dX12_leastLeft_20 : decode cX12_leastLeft 20 = .ok (.imul, 1) := by decide +kernel
theorem dX12_leastLeft_21 : decode cX12_leastLeft 21 = .ok (.aload_n 0, 1) := by decide +kernel
theorem dX12_leastLeft_22 : decode cX12_leastLeft 22 = .ok (.getfield 137, 3) := by decide +kernel
theorem dX12_leastLeft_25 : decode cX12_leastLeft 25 = .ok (.iload_n 2, 1) := by decide +kernel
theorem dX12_leastLeft_26 : decode cX12_leastLeft 26 = .ok (.iaload, 1) := by decide +kernel
theorem dX12_leastLeft_27 : decode cX12_leastLeft 27 = .ok (.iadd, 1) := by decide +kernel
theorem dX12_leastLeft_28 : decode cX12_leastLeft 28 = .ok (.iaload, 1) := by decide +kernel
theorem dX12_leastLeft_29 : decode cX12_leastLeft 29 = .ok (.iload_n 1, 1) := by decide +kernel
theorem dX12_leastLeft_30 : decode cX12_leastLeft 30 = .ok (.if_icmp .ge 21, 3) := by decide +kernel
theorem dX12_leastLeft_33 : decode cX12_leastLeft 33 = .ok (.aload_n 0, 1) := by decide +kernel
theorem dX12_leastLeft_34 : decode cX12_leastLeft 34 = .ok (.getfield 167, 3) := by decide +kernel
theorem dX12_leastLeft_37 : decode cX12_leastLeft 37 = .ok (.iconst 4, 1) := by decide +kernel
theorem dX12_leastLeft_38 : decode cX12_leastLeft 38 = .ok (.iload_n 2, 1) := by decide +kernel
theorem dX12_leastLeft_39 : decode cX12_leastLeft 39 = .ok (.imul, 1) := by decide +kernel
theorem dX12_leastLeft_40 : decode cX12_leastLeft 40 = .ok (.aload_n 0, 1) := by decide +kernel
theorem dX12_leastLeft_41 : decode cX12_leastLeft 41 = .ok (.getfield 137, 3) := by decide +kernel
theorem dX12_leastLeft_44 : decode cX12_leastLeft 44 = .ok (.iload_n 2, 1) := by decide +kernel
theorem dX12_leastLeft_45 : decode cX12_leastLeft 45 = .ok (.iaload, 1) := by decide +kernel
theorem dX12_leastLeft_46 : decode cX12_leastLeft 46 = .ok (.iadd, 1) := by decide +kernel
theorem dX12_leastLeft_47 : decode cX12_leastLeft 47 = .ok (.iaload, 1) := by decide +kernel
theorem dX12_leastLeft_48 : decode cX12_leastLeft 48 = .ok (.goto 4, 3) := by decide +kernel
theorem dX12_leastLeft_51 : decode cX12_leastLeft 51 = .ok (.iload_n 1, 1) := by decide +kernel
theorem dX12_leastLeft_52 : decode cX12_leastLeft 52 = .ok (.istore_n 1, 1) := by decide +kernel
theorem dX12_leastLeft_53 : decode cX12_leastLeft 53 = .ok (.iinc 2 1, 3) := by decide +kernel
theorem dX12_leastLeft_56 : decode cX12_leastLeft 56 = .ok (.goto (-50), 3) := by decide +kernel
theorem dX12_leastLeft_59 : decode cX12_leastLeft 59 = .ok (.iload_n 1, 1) := by decide +kernel
theorem dX12_leastLeft_60 : decode cX12_leastLeft 60 = .ok (.ireturn, 1) := by decide +kernel
theorem dX12_findPieces_0 : decode cX12_findPieces 0 = .ok (.iconst 0, 1) := by decide +kernel
theorem dX12_findPieces_1 : decode cX12_findPieces 1 = .ok (.istore_n 2, 1) := by decide +kernel
theorem dX12_findPieces_2 : decode cX12_findPieces 2 = .ok (.iload_n 2, 1) := by decide +kernel
theorem dX12_findPieces_3 : decode cX12_findPieces 3 = .ok (.bipush 16, 2) := by decide +kernel
theorem dX12_findPieces_5 : decode cX12_findPieces 5 = .ok (.if_icmp .ge 24, 3) := by decide +kernel
theorem dX12_findPieces_8 : decode cX12_findPieces 8 = .ok (.aload_n 0, 1) := by decide +kernel
theorem dX12_findPieces_9 : decode cX12_findPieces 9 = .ok (.getfield 167, 3) := by decide +kernel
theorem dX12_findPieces_12 : decode cX12_findPieces 12 = .ok (.iload_n 2, 1) := by decide +kernel
theorem dX12_findPieces_13 : decode cX12_findPieces 13 = .ok (.aload_n 0, 1) := by decide +kernel
theorem dX12_findPieces_14 : decode cX12_findPieces 14 = .ok (.getfield 130, 3) := by decide +kernel
theorem dX12_findPieces_17 : decode cX12_findPieces 17 = .ok (.bipush 14, 2) := by decide +kernel
theorem dX12_findPieces_19 : decode cX12_findPieces 19 = .ok (.iload_n 2, 1) := by decide +kernel
theorem dX12_findPieces_20 : decode cX12_findPieces 20 = .ok (.iadd, 1) := by decide +kernel
theorem dX12_findPieces_21 : decode cX12_findPieces 21 = .ok (.iaload, 1) := by decide +kernel
theorem dX12_findPieces_22 : decode cX12_findPieces 22 = .ok (.iastore, 1) := by decide +kernel
theorem dX12_findPieces_23 : decode cX12_findPieces 23 = .ok (.iinc 2 1, 3) := by decide +kernel
theorem dX12_findPieces_26 : decode cX12_findPieces 26 = .ok (.goto (-24), 3) := by decide +kernel
theorem dX12_findPieces_29 : decode cX12_findPieces 29 = .ok (.aload_n 0, 1) := by decide +kernel
theorem dX12_findPieces_30 : decode cX12_findPieces 30 = .ok (.iconst 0, 1) := by decide +kernel
theorem dX12_findPieces_31 : decode cX12_findPieces 31 = .ok (.putfield 465, 3) := by decide +kernel
theorem dX12_findPieces_34 : decode cX12_findPieces 34 = .ok (.iload_n 1, 1) := by decide +kernel
theorem dX12_findPieces_35 : decode cX12_findPieces 35 = .ok (.istore_n 2, 1) := by decide +kernel
theorem dX12_findPieces_36 : decode cX12_findPieces 36 = .ok (.iload_n 2, 1) := by decide +kernel
theorem dX12_findPieces_37 : decode cX12_findPieces 37 = .ok (.ifCond .le 117, 3) := by decide +kernel
theorem dX12_findPieces_40 : decode cX12_findPieces 40 = .ok (.iconst 0, 1) := by decide +kernel
theorem dX12_findPieces_41 : decode cX12_findPieces 41 = .ok (.istore_n 3, 1) := by decide +kernel
theorem dX12_findPieces_42 : decode cX12_findPieces 42 = .ok (.aload_n 0, 1) := by decide +kernel
theorem dX12_findPieces_43 : decode cX12_findPieces 43 = .ok (.iload_n 3, 1) := by decide +kernel
theorem dX12_findPieces_44 : decode cX12_findPieces 44 = .ok (.invokevirtual 393, 3) := by decide +kernel
theorem dX12_findPieces_47 : decode cX12_findPieces 47 = .ok (.ifCond .eq 10, 3) := by decide +kernel
theorem dX12_findPieces_50 : decode cX12_findPieces 50 = .ok (.aload_n 0, 1) := by decide +kernel
theorem dX12_findPieces_51 : decode cX12_findPieces 51 = .ok (.invokevirtual 468, 3) := by decide +kernel
theorem dX12_findPieces_54 : decode cX12_findPieces 54 = .ok (.ifCond .ne 9, 3) := by decide +kernel
theorem dX12_findPieces_57 : decode cX12_findPieces 57 = .ok (.iinc 3 1, 3) := by decide +kernel
theorem dX12_findPieces_60 : decode cX12_findPieces 60 = .ok (.goto (-18), 3) := by decide +kernel
theorem dX12_findPieces_63 : decode cX12_findPieces 63 = .ok (.aload_n 0, 1) := by decide +kernel
theorem dX12_findPieces_64 : decode cX12_findPieces 64 = .ok (.invokevirtual 468, 3) := by decide +kernel
theorem dX12_findPieces_67 : decode cX12_findPieces 67 = .ok (.istore 4, 2) := by decide +kernel
theorem dX12_findPieces_69 : decode cX12_findPieces 69 = .ok (.iconst 0, 1) := by decide +kernel
theorem dX12_findPieces_70 : decode cX12_findPieces 70 = .ok (.istore 5, 2) := by decide +kernel
theorem dX12_findPieces_72 : decode cX12_findPieces 72 = .ok (.iload 5, 2) := by decide +kernel
theorem dX12_findPieces_74 : decode cX12_findPieces 74 = .ok (.aload_n 0, 1) := by decide +kernel
theorem dX12_findPieces_75 : decode cX12_findPieces 75 = .ok (.invokevirtual 334, 3) := by decide +kernel
theorem dX12_findPieces_78 : decode cX12_findPieces 78 = .ok (.if_icmp .ge 31, 3) := by decide +kernel
theorem dX12_findPieces_81 : decode cX12_findPieces 81 = .ok (.aload_n 0, 1) := by decide +kernel
theorem dX12_findPieces_82 : decode cX12_findPieces 82 = .ok (.getfield 167, 3) := by decide +kernel
theorem dX12_findPieces_85 : decode cX12_findPieces 85 = .ok (.iconst 4, 1) := by decide +kernel
theorem dX12_findPieces_86 : decode cX12_findPieces 86 = .ok (.iload 5, 2) := by decide +kernel
theorem dX12_findPieces_88 : decode cX12_findPieces 88 = .ok (.imul, 1) := by decide +kernel
theorem dX12_findPieces_89 : decode cX12_findPieces 89 = .ok (.aload_n 0, 1) := by decide +kernel
theorem dX12_findPieces_90 : decode cX12_findPieces 90 = .ok (.getfield 137, 3) := by decide +kernel
theorem dX12_findPieces_93 : decode cX12_findPieces 93 = .ok (.iload 5, 2) := by decide +kernel
theorem dX12_findPieces_95 : decode cX12_findPieces 95 = .ok (.iaload, 1) := by decide +kernel
theorem dX12_findPieces_96 : decode cX12_findPieces 96 = .ok (.iadd, 1) := by decide +kernel
theorem dX12_findPieces_97 : decode cX12_findPieces 97 = .ok (.dup2, 1) := by decide +kernel
theorem dX12_findPieces_98 : decode cX12_findPieces 98 = .ok (.iaload, 1) := by decide +kernel
theorem dX12_findPieces_99 : decode cX12_findPieces 99 = .ok (.iload 4, 2) := by decide +kernel
theorem dX12_findPieces_101 : decode cX12_findPieces 101 = .ok (.isub, 1) := by decide +kernel
theorem dX12_findPieces_102 : decode cX12_findPieces 102 = .ok (.iastore, 1) := by decide +kernel
theorem dX12_findPieces_103 : decode cX12_findPieces 103 = .ok (.iinc 5 1, 3) := by decide +kernel
theorem dX12_findPieces_106 : decode cX12_findPieces 106 = .ok (.goto (-34), 3) := by decide +kernel
theorem dX12_findPieces_109 : decode cX12_findPieces 109 = .ok (.aload_n 0, 1) := by decide +kernel
theorem dX12_findPieces_110 : decode cX12_findPieces 110 = .ok (.getfield 170, 3) := by decide +kernel
theorem dX12_findPieces_113 : decode cX12_findPieces 113 = .ok (.iconst 2, 1) := by decide +kernel
theorem dX12_findPieces_114 : decode cX12_findPieces 114 = .ok (.aload_n 0, 1) := by decide +kernel
theorem dX12_findPieces_115 : decode cX12_findPieces 115 = .ok (.getfield 465, 3) := by decide +kernel
theorem dX12_findPieces_118 : decode cX12_findPieces 118 = .ok (.imul, 1) := by decide +kernel
theorem dX12_findPieces_119 : decode cX12_findPieces 119 = .ok (.iload_n 3, 1) := by decide +kernel
theorem dX12_findPieces_120 : decode cX12_findPieces 120 = .ok (.iastore, 1) := by decide +kernel
theorem dX12_findPieces_121 : decode cX12_findPieces 121 = .ok (.aload_n 0, 1) := by decide +kernel
theorem dX12_findPieces_122 : decode cX12_findPieces 122 = .ok (.getfield 170, 3) := by decide +kernel
theorem dX12_findPieces_125 : decode cX12_findPieces 125 = .ok (.iconst 2, 1) := by decide +kernel
theorem dX12_findPieces_126 : decode cX12_findPieces 126 = .ok (.aload_n 0, 1) := by decide +kernel
theorem dX12_findPieces_127 : decode cX12_findPieces 127 = .ok (.getfield 465, 3) := by decide +kernel
theorem dX12_findPieces_130 : decode cX12_findPieces 130 = .ok (.imul, 1) := by decide +kernel
theorem dX12_findPieces_131 : decode cX12_findPieces 131 = .ok (.iconst 1, 1) := by decide +kernel
theorem dX12_findPieces_132 : decode cX12_findPieces 132 = .ok (.iadd, 1) := by decide +kernel
theorem dX12_findPieces_133 : decode cX12_findPieces 133 = .ok (.iload 4, 2) := by decide +kernel
theorem dX12_findPieces_135 : decode cX12_findPieces 135 = .ok (.iastore, 1) := by decide +kernel
theorem dX12_findPieces_136 : decode cX12_findPieces 136 = .ok (.aload_n 0, 1) := by decide +kernel
theorem dX12_findPieces_137 : decode cX12_findPieces 137 = .ok (.dup, 1) := by decide +kernel
theorem dX12_findPieces_138 : decode cX12_findPieces 138 = .ok (.getfield 465, 3) := by decide +kernel
theorem dX12_findPieces_141 : decode cX12_findPieces 141 = .ok (.iconst 1, 1) := by decide +kernel
theorem dX12_findPieces_142 : decode cX12_findPieces 142 = .ok (.iadd, 1) := by decide +kernel
theorem dX12_findPieces_143 : decode cX12_findPieces 143 = .ok (.putfield 465, 3) := by decide +kernel
theorem dX12_findPieces_146 : decode cX12_findPieces 146 = .ok (.iload_n 2, 1) := by decide +kernel
theorem dX12_findPieces_147 : decode cX12_findPieces 147 = .ok (.iload 4, 2) := by decide +kernel
theorem dX12_findPieces_149 : decode cX12_findPieces 149 = .ok (.isub, 1) := by decide +kernel
theorem dX12_findPieces_150 : decode cX12_findPieces 150 = .ok (.istore_n 2, 1) := by decide +kernel
theorem dX12_findPieces_151 : decode cX12_findPieces 151 = .ok (.goto (-115), 3) := by decide +kernel
theorem dX12_findPieces_154 : decode cX12_findPieces 154 = .ok (.return_, 1) := by decide +kernel
theorem dX12_pieces_0 : decode cX12_pieces 0 = .ok (.aload_n 0, 1) := by decide +kernel
theorem dX12_pieces_1 : decode cX12_pieces 1 = .ok (.iconst 0, 1) := by decide +kernel
theorem dX12_pieces_2 : decode cX12_pieces 2 = .ok (.putfield 1, 3) := by decide +kernel
theorem dX12_pieces_5 : decode cX12_pieces 5 = .ok (.aload_n 0, 1) := by decide +kernel
theorem dX12_pieces_6 : decode cX12_pieces 6 = .ok (.iload_n 1, 1) := by decide +kernel
theorem dX12_pieces_7 : decode cX12_pieces 7 = .ok (.invokevirtual 390, 3) := by decide +kernel
theorem dX12_pieces_10 : decode cX12_pieces 10 = .ok (.ifCond .eq 31, 3) := by decide +kernel
theorem dX12_pieces_13 : decode cX12_pieces 13 = .ok (.iload_n 2, 1) := by decide +kernel
theorem dX12_pieces_14 : decode cX12_pieces 14 = .ok (.iconst (-1), 1) := by decide +kernel
theorem dX12_pieces_15 : decode cX12_pieces 15 = .ok (.if_icmp .lt 26, 3) := by decide +kernel
theorem dX12_pieces_18 : decode cX12_pieces 18 = .ok (.aload_n 0, 1) := by decide +kernel
theorem dX12_pieces_19 : decode cX12_pieces 19 = .ok (.getfield 130, 3) := by decide +kernel
theorem dX12_pieces_22 : decode cX12_pieces 22 = .ok (.bipush 13, 2) := by decide +kernel
theorem dX12_pieces_24 : decode cX12_pieces 24 = .ok (.iaload, 1) := by decide +kernel
theorem dX12_pieces_25 : decode cX12_pieces 25 = .ok (.ifCond .eq 16, 3) := by decide +kernel
theorem dX12_pieces_28 : decode cX12_pieces 28 = .ok (.aload_n 0, 1) := by decide +kernel
theorem dX12_pieces_29 : decode cX12_pieces 29 = .ok (.aload_n 0, 1) := by decide +kernel
theorem dX12_pieces_30 : decode cX12_pieces 30 = .ok (.iload_n 1, 1) := by decide +kernel
theorem dX12_pieces_31 : decode cX12_pieces 31 = .ok (.iconst 0, 1) := by decide +kernel
theorem dX12_pieces_32 : decode cX12_pieces 32 = .ok (.invokevirtual 381, 3) := by decide +kernel
theorem dX12_pieces_35 : decode cX12_pieces 35 = .ok (.invokevirtual 471, 3) := by decide +kernel
theorem dX12_pieces_38 : decode cX12_pieces 38 = .ok (.ifCond .ne 6, 3) := by decide +kernel
theorem dX12_pieces_41 : decode cX12_pieces 41 = .ok (.bipush (-2), 2) := by decide +kernel
theorem dX12_pieces_43 : decode cX12_pieces 43 = .ok (.ireturn, 1) := by decide +kernel
theorem dX12_pieces_44 : decode cX12_pieces 44 = .ok (.aload_n 0, 1) := by decide +kernel
theorem dX12_pieces_45 : decode cX12_pieces 45 = .ok (.aload_n 0, 1) := by decide +kernel
theorem dX12_pieces_46 : decode cX12_pieces 46 = .ok (.iload_n 1, 1) := by decide +kernel
theorem dX12_pieces_47 : decode cX12_pieces 47 = .ok (.iconst 0, 1) := by decide +kernel
theorem dX12_pieces_48 : decode cX12_pieces 48 = .ok (.invokevirtual 381, 3) := by decide +kernel
theorem dX12_pieces_51 : decode cX12_pieces 51 = .ok (.invokevirtual 474, 3) := by decide +kernel
theorem dX12_pieces_54 : decode cX12_pieces 54 = .ok (.iload_n 2, 1) := by decide +kernel
theorem dX12_pieces_55 : decode cX12_pieces 55 = .ok (.ifCond .ge 10, 3) := by decide +kernel
theorem dX12_pieces_58 : decode cX12_pieces 58 = .ok (.aload_n 0, 1) := by decide +kernel
theorem dX12_pieces_59 : decode cX12_pieces 59 = .ok (.getfield 465, 3) := by decide +kernel
theorem dX12_pieces_62 : decode cX12_pieces 62 = .ok (.goto 24, 3) := by decide +kernel
theorem dX12_pieces_65 : decode cX12_pieces 65 = .ok (.iload_n 2, 1) := by decide +kernel
theorem dX12_pieces_66 : decode cX12_pieces 66 = .ok (.iconst 2, 1) := by decide +kernel
theorem dX12_pieces_67 : decode cX12_pieces 67 = .ok (.aload_n 0, 1) := by decide +kernel
theorem dX12_pieces_68 : decode cX12_pieces 68 = .ok (.getfield 465, 3) := by decide +kernel
theorem dX12_pieces_71 : decode cX12_pieces 71 = .ok (.imul, 1) := by decide +kernel
theorem dX12_pieces_72 : decode cX12_pieces 72 = .ok (.if_icmp .ge 12, 3) := by decide +kernel
theorem dX12_pieces_75 : decode cX12_pieces 75 = .ok (.aload_n 0, 1) := by decide +kernel
theorem dX12_pieces_76 : decode cX12_pieces 76 = .ok (.getfield 170, 3) := by decide +kernel
theorem dX12_pieces_79 : decode cX12_pieces 79 = .ok (.iload_n 2, 1) := by decide +kernel
theorem dX12_pieces_80 : decode cX12_pieces 80 = .ok (.iaload, 1) := by decide +kernel
theorem dX12_pieces_81 : decode cX12_pieces 81 = .ok (.goto 5, 3) := by decide +kernel
theorem dX12_pieces_84 : decode cX12_pieces 84 = .ok (.bipush (-2), 2) := by decide +kernel
theorem dX12_pieces_86 : decode cX12_pieces 86 = .ok (.ireturn, 1) := by decide +kernel
theorem dX12_toffees_0 : decode cX12_toffees 0 = .ok (.aload_n 0, 1) := by decide +kernel
theorem dX12_toffees_1 : decode cX12_toffees 1 = .ok (.iconst 0, 1) := by decide +kernel
theorem dX12_toffees_2 : decode cX12_toffees 2 = .ok (.putfield 1, 3) := by decide +kernel
theorem dX12_toffees_5 : decode cX12_toffees 5 = .ok (.aload_n 0, 1) := by decide +kernel
theorem dX12_toffees_6 : decode cX12_toffees 6 = .ok (.iload_n 1, 1) := by decide +kernel
theorem dX12_toffees_7 : decode cX12_toffees 7 = .ok (.invokevirtual 390, 3) := by decide +kernel
theorem dX12_toffees_10 : decode cX12_toffees 10 = .ok (.ifCond .eq 28, 3) := by decide +kernel
theorem dX12_toffees_13 : decode cX12_toffees 13 = .ok (.aload_n 0, 1) := by decide +kernel
theorem dX12_toffees_14 : decode cX12_toffees 14 = .ok (.invokevirtual 334, 3) := by decide +kernel
theorem dX12_toffees_17 : decode cX12_toffees 17 = .ok (.aload_n 0, 1) := by decide +kernel
theorem dX12_toffees_18 : decode cX12_toffees 18 = .ok (.invokevirtual 331, 3) := by decide +kernel
theorem dX12_toffees_21 : decode cX12_toffees 21 = .ok (.if_icmp .lt 17, 3) := by decide +kernel
theorem dX12_toffees_24 : decode cX12_toffees 24 = .ok (.iload_n 2, 1) := by decide +kernel
theorem dX12_toffees_25 : decode cX12_toffees 25 = .ok (.iconst (-1), 1) := by decide +kernel
theorem dX12_toffees_26 : decode cX12_toffees 26 = .ok (.aload_n 0, 1) := by decide +kernel
theorem dX12_toffees_27 : decode cX12_toffees 27 = .ok (.invokevirtual 331, 3) := by decide +kernel
theorem dX12_toffees_30 : decode cX12_toffees 30 = .ok (.iconst 1, 1) := by decide +kernel
theorem dX12_toffees_31 : decode cX12_toffees 31 = .ok (.isub, 1) := by decide +kernel
theorem dX12_toffees_32 : decode cX12_toffees 32 = .ok (.invokestatic 308, 3) := by decide +kernel
theorem dX12_toffees_35 : decode cX12_toffees 35 = .ok (.ifCond .ne 6, 3) := by decide +kernel
theorem dX12_toffees_38 : decode cX12_toffees 38 = .ok (.bipush (-2), 2) := by decide +kernel
theorem dX12_toffees_40 : decode cX12_toffees 40 = .ok (.ireturn, 1) := by decide +kernel
theorem dX12_toffees_41 : decode cX12_toffees 41 = .ok (.iconst (-1), 1) := by decide +kernel
theorem dX12_toffees_42 : decode cX12_toffees 42 = .ok (.istore_n 3, 1) := by decide +kernel
theorem dX12_toffees_43 : decode cX12_toffees 43 = .ok (.iconst (-1), 1) := by decide +kernel
theorem dX12_toffees_44 : decode cX12_toffees 44 = .ok (.istore 4, 2) := by decide +kernel
theorem dX12_toffees_46 : decode cX12_toffees 46 = .ok (.iconst 0, 1) := by decide +kernel
theorem dX12_toffees_47 : decode cX12_toffees 47 = .ok (.istore 5, 2) := by decide +kernel
theorem dX12_toffees_49 : decode cX12_toffees 49 = .ok (.iload 5, 2) := by decide +kernel
theorem dX12_toffees_51 : decode cX12_toffees 51 = .ok (.sipush 256, 3) := by decide +kernel
theorem dX12_toffees_54 : decode cX12_toffees 54 = .ok (.if_icmp .ge 103, 3) := by decide +kernel
theorem dX12_toffees_57 : decode cX12_toffees 57 = .ok (.aload_n 0, 1) := by decide +kernel
theorem dX12_toffees_58 : decode cX12_toffees 58 = .ok (.iload 5, 2) := by decide +kernel
theorem dX12_toffees_60 : decode cX12_toffees 60 = .ok (.invokevirtual 393, 3) := by decide +kernel
theorem dX12_toffees_63 : decode cX12_toffees 63 = .ok (.istore 6, 2) := by decide +kernel
theorem dX12_toffees_65 : decode cX12_toffees 65 = .ok (.iconst 0, 1) := by decide +kernel
theorem dX12_toffees_66 : decode cX12_toffees 66 = .ok (.istore 7, 2) := by decide +kernel
theorem dX12_toffees_68 : decode cX12_toffees 68 = .ok (.iconst 0, 1) := by decide +kernel
theorem dX12_toffees_69 : decode cX12_toffees 69 = .ok (.istore 8, 2) := by decide +kernel
theorem dX12_toffees_71 : decode cX12_toffees 71 = .ok (.iload 8, 2) := by decide +kernel
theorem dX12_toffees_73 : decode cX12_toffees 73 = .ok (.aload_n 0, 1) := by decide +kernel
theorem dX12_toffees_74 : decode cX12_toffees 74 = .ok (.invokevirtual 334, 3) := by decide +kernel
theorem dX12_toffees_77 : decode cX12_toffees 77 = .ok (.if_icmp .ge 34, 3) := by decide +kernel
theorem dX12_toffees_80 : decode cX12_toffees 80 = .ok (.iload 6, 2) := by decide +kernel
theorem dX12_toffees_82 : decode cX12_toffees 82 = .ok (.ifCond .eq 29, 3) := by decide +kernel
theorem dX12_toffees_85 : decode cX12_toffees 85 = .ok (.iload 7, 2) := by decide +kernel
theorem dX12_toffees_87 : decode cX12_toffees 87 = .ok (.aload_n 0, 1) := by decide +kernel
theorem dX12_toffees_88 : decode cX12_toffees 88 = .ok (.iload 8, 2) := by decide +kernel
theorem dX12_toffees_90 : decode cX12_toffees 90 = .ok (.aload_n 0, 1) := by decide +kernel
theorem dX12_toffees_91 : decode cX12_toffees 91 = .ok (.getfield 137, 3) := by decide +kernel
theorem dX12_toffees_94 : decode cX12_toffees 94 = .ok (.iload 8, 2) := by decide +kernel
theorem dX12_toffees_96 : decode cX12_toffees 96 = .ok (.iaload, 1) := by decide +kernel
theorem dX12_toffees_97 : decode cX12_toffees 97 = .ok (.iload_n 1, 1) := by decide +kernel
theorem dX12_toffees_98 : decode cX12_toffees 98 = .ok (.iconst 0, 1) := by decide +kernel
theorem dX12_toffees_99 : decode cX12_toffees 99 = .ok (.invokevirtual 402, 3) := by decide +kernel
theorem dX12_toffees_102 : decode cX12_toffees 102 = .ok (.iadd, 1) := by decide +kernel
theorem dX12_toffees_103 : decode cX12_toffees 103 = .ok (.istore 7, 2) := by decide +kernel
theorem dX12_toffees_105 : decode cX12_toffees 105 = .ok (.iinc 8 1, 3) := by decide +kernel
theorem dX12_toffees_108 : decode cX12_toffees 108 = .ok (.goto (-37), 3) := by decide +kernel
theorem dX12_toffees_111 : decode cX12_toffees 111 = .ok (.iload 6, 2) := by decide +kernel
theorem dX12_toffees_113 : decode cX12_toffees 113 = .ok (.ifCond .eq 15, 3) := by decide +kernel
theorem dX12_toffees_116 : decode cX12_toffees 116 = .ok (.iload 7, 2) := by decide +kernel
theorem dX12_toffees_118 : decode cX12_toffees 118 = .ok (.iload 4, 2) := by decide +kernel
theorem dX12_toffees_120 : decode cX12_toffees 120 = .ok (.if_icmp .le 8, 3) := by decide +kernel
theorem dX12_toffees_123 : decode cX12_toffees 123 = .ok (.iload 5, 2) := by decide +kernel
theorem dX12_toffees_125 : decode cX12_toffees 125 = .ok (.goto 4, 3) := by decide +kernel
theorem dX12_toffees_128 : decode cX12_toffees 128 = .ok (.iload_n 3, 1) := by decide +kernel
theorem dX12_toffees_129 : decode cX12_toffees 129 = .ok (.istore_n 3, 1) := by decide +kernel
theorem dX12_toffees_130 : decode cX12_toffees 130 = .ok (.iload 6, 2) := by decide +kernel
theorem dX12_toffees_132 : decode cX12_toffees 132 = .ok (.ifCond .eq 15, 3) := by decide +kernel
theorem dX12_toffees_135 : decode cX12_toffees 135 = .ok (.iload 7, 2) := by decide +kernel
theorem dX12_toffees_137 : decode cX12_toffees 137 = .ok (.iload 4, 2) := by decide +kernel
theorem dX12_toffees_139 : decode cX12_toffees 139 = .ok (.if_icmp .le 8, 3) := by decide +kernel
theorem dX12_toffees_142 : decode cX12_toffees 142 = .ok (.iload 7, 2) := by decide +kernel
theorem dX12_toffees_144 : decode cX12_toffees 144 = .ok (.goto 5, 3) := by decide +kernel
theorem dX12_toffees_147 : decode cX12_toffees 147 = .ok (.iload 4, 2) := by decide +kernel
theorem dX12_toffees_149 : decode cX12_toffees 149 = .ok (.istore 4, 2) := by decide +kernel
theorem dX12_toffees_151 : decode cX12_toffees 151 = .ok (.iinc 5 1, 3) := by decide +kernel
theorem dX12_toffees_154 : decode cX12_toffees 154 = .ok (.goto (-105), 3) := by decide +kernel
theorem dX12_toffees_157 : decode cX12_toffees 157 = .ok (.aload_n 0, 1) := by decide +kernel
theorem dX12_toffees_158 : decode cX12_toffees 158 = .ok (.iload_n 3, 1) := by decide +kernel
theorem dX12_toffees_159 : decode cX12_toffees 159 = .ok (.invokevirtual 393, 3) := by decide +kernel
theorem dX12_toffees_162 : decode cX12_toffees 162 = .ok (.pop, 1) := by decide +kernel
theorem dX12_toffees_163 : decode cX12_toffees 163 = .ok (.iconst 0, 1) := by decide +kernel
theorem dX12_toffees_164 : decode cX12_toffees 164 = .ok (.istore 5, 2) := by decide +kernel
theorem dX12_toffees_166 : decode cX12_toffees 166 = .ok (.iload 5, 2) := by decide +kernel
theorem dX12_toffees_168 : decode cX12_toffees 168 = .ok (.aload_n 0, 1) := by decide +kernel
theorem dX12_toffees_169 : decode cX12_toffees 169 = .ok (.invokevirtual 334, 3) := by decide +kernel
theorem dX12_toffees_172 : decode cX12_toffees 172 = .ok (.if_icmp .ge 31, 3) := by decide +kernel
theorem dX12_toffees_175 : decode cX12_toffees 175 = .ok (.aload_n 0, 1) := by decide +kernel
theorem dX12_toffees_176 : decode cX12_toffees 176 = .ok (.getfield 176, 3) := by decide +kernel
theorem dX12_toffees_179 : decode cX12_toffees 179 = .ok (.iload 5, 2) := by decide +kernel
theorem dX12_toffees_181 : decode cX12_toffees 181 = .ok (.aload_n 0, 1) := by decide +kernel
theorem dX12_toffees_182 : decode cX12_toffees 182 = .ok (.getfield 137, 3) := by decide +kernel
theorem dX12_toffees_185 : decode cX12_toffees 185 = .ok (.iload 5, 2) := by decide +kernel
theorem dX12_toffees_187 : decode cX12_toffees 187 = .ok (.iaload, 1) := by decide +kernel
theorem dX12_toffees_188 : decode cX12_toffees 188 = .ok (.iastore, 1) := by decide +kernel
theorem dX12_toffees_189 : decode cX12_toffees 189 = .ok (.aload_n 0, 1) := by decide +kernel
theorem dX12_toffees_190 : decode cX12_toffees 190 = .ok (.getfield 173, 3) := by decide +kernel
theorem dX12_toffees_193 : decode cX12_toffees 193 = .ok (.iload 5, 2) := by decide +kernel
theorem dX12_toffees_195 : decode cX12_toffees 195 = .ok (.iconst 0, 1) := by decide +kernel
theorem dX12_toffees_196 : decode cX12_toffees 196 = .ok (.iastore, 1) := by decide +kernel
theorem dX12_toffees_197 : decode cX12_toffees 197 = .ok (.iinc 5 1, 3) := by decide +kernel
theorem dX12_toffees_200 : decode cX12_toffees 200 = .ok (.goto (-34), 3) := by decide +kernel
theorem dX12_toffees_203 : decode cX12_toffees 203 = .ok (.iconst 0, 1) := by decide +kernel
theorem dX12_toffees_204 : decode cX12_toffees 204 = .ok (.istore 5, 2) := by decide +kernel
theorem dX12_toffees_206 : decode cX12_toffees 206 = .ok (.iload 5, 2) := by decide +kernel
theorem dX12_toffees_208 : decode cX12_toffees 208 = .ok (.bipush 8, 2) := by decide +kernel
theorem dX12_toffees_210 : decode cX12_toffees 210 = .ok (.if_icmp .ge 117, 3) := by decide +kernel
theorem dX12_toffees_213 : decode cX12_toffees 213 = .ok (.iconst 0, 1) := by decide +kernel
theorem dX12_toffees_214 : decode cX12_toffees 214 = .ok (.istore 6, 2) := by decide +kernel
theorem dX12_toffees_216 : decode cX12_toffees 216 = .ok (.iload 6, 2) := by decide +kernel
theorem dX12_toffees_218 : decode cX12_toffees 218 = .ok (.aload_n 0, 1) := by decide +kernel
theorem dX12_toffees_219 : decode cX12_toffees 219 = .ok (.invokevirtual 334, 3) := by decide +kernel
theorem dX12_toffees_222 : decode cX12_toffees 222 = .ok (.if_icmp .ge 99, 3) := by decide +kernel
theorem dX12_toffees_225 : decode cX12_toffees 225 = .ok (.iconst 0, 1) := by decide +kernel
theorem dX12_toffees_226 : decode cX12_toffees 226 = .ok (.istore 7, 2) := by decide +kernel
theorem dX12_toffees_228 : decode cX12_toffees 228 = .ok (.iload 7, 2) := by decide +kernel
theorem dX12_toffees_230 : decode cX12_toffees 230 = .ok (.aload_n 0, 1) := by decide +kernel
theorem dX12_toffees_231 : decode cX12_toffees 231 = .ok (.invokevirtual 331, 3) := by decide +kernel
theorem dX12_toffees_234 : decode cX12_toffees 234 = .ok (.if_icmp .ge 81, 3) := by decide +kernel
theorem dX12_toffees_237 : decode cX12_toffees 237 = .ok (.aload_n 0, 1) := by decide +kernel
theorem dX12_toffees_238 : decode cX12_toffees 238 = .ok (.getfield 173, 3) := by decide +kernel
theorem dX12_toffees_241 : decode cX12_toffees 241 = .ok (.aload_n 0, 1) := by decide +kernel
theorem dX12_toffees_242 : decode cX12_toffees 242 = .ok (.getfield 176, 3) := by decide +kernel
theorem dX12_toffees_245 : decode cX12_toffees 245 = .ok (.iload 6, 2) := by decide +kernel
theorem dX12_toffees_247 : decode cX12_toffees 247 = .ok (.iaload, 1) := by decide +kernel
theorem dX12_toffees_248 : decode cX12_toffees 248 = .ok (.iaload, 1) := by decide +kernel
theorem dX12_toffees_249 : decode cX12_toffees 249 = .ok (.aload_n 0, 1) := by decide +kernel
theorem dX12_toffees_250 : decode cX12_toffees 250 = .ok (.iload 6, 2) := by decide +kernel
theorem dX12_toffees_252 : decode cX12_toffees 252 = .ok (.iload 7, 2) := by decide +kernel
theorem dX12_toffees_254 : decode cX12_toffees 254 = .ok (.iload_n 1, 1) := by decide +kernel
theorem dX12_toffees_255 : decode cX12_toffees 255 = .ok (.iconst 0, 1) := by decide +kernel
theorem dX12_toffees_256 : decode cX12_toffees 256 = .ok (.invokevirtual 402, 3) := by decide +kernel
theorem dX12_toffees_259 : decode cX12_toffees 259 = .ok (.iadd, 1) := by decide +kernel
theorem dX12_toffees_260 : decode cX12_toffees 260 = .ok (.aload_n 0, 1) := by decide +kernel
theorem dX12_toffees_261 : decode cX12_toffees 261 = .ok (.iload 6, 2) := by decide +kernel
theorem dX12_toffees_263 : decode cX12_toffees 263 = .ok (.aload_n 0, 1) := by decide +kernel
theorem dX12_toffees_264 : decode cX12_toffees 264 = .ok (.getfield 176, 3) := by decide +kernel
theorem dX12_toffees_267 : decode cX12_toffees 267 = .ok (.iload 6, 2) := by decide +kernel
theorem dX12_toffees_269 : decode cX12_toffees 269 = .ok (.iaload, 1) := by decide +kernel
theorem dX12_toffees_270 : decode cX12_toffees 270 = .ok (.iload_n 1, 1) := by decide +kernel
theorem dX12_toffees_271 : decode cX12_toffees 271 = .ok (.iconst 0, 1) := by decide +kernel
theorem dX12_toffees_272 : decode cX12_toffees 272 = .ok (.invokevirtual 402, 3) := by decide +kernel
theorem dX12_toffees_275 : decode cX12_toffees 275 = .ok (.isub, 1) := by decide +kernel
theorem dX12_toffees_276 : decode cX12_toffees 276 = .ok (.istore 8, 2) := by decide +kernel
theorem dX12_toffees_278 : decode cX12_toffees 278 = .ok (.aload_n 0, 1) := by decide +kernel
theorem dX12_toffees_279 : decode cX12_toffees 279 = .ok (.getfield 173, 3) := by decide +kernel
theorem dX12_toffees_282 : decode cX12_toffees 282 = .ok (.iload 7, 2) := by decide +kernel
theorem dX12_toffees_284 : decode cX12_toffees 284 = .ok (.iload 8, 2) := by decide +kernel
theorem dX12_toffees_286 : decode cX12_toffees 286 = .ok (.aload_n 0, 1) := by decide +kernel
theorem dX12_toffees_287 : decode cX12_toffees 287 = .ok (.getfield 173, 3) := by decide +kernel
theorem dX12_toffees_290 : decode cX12_toffees 290 = .ok (.iload 7, 2) := by decide +kernel
theorem dX12_toffees_292 : decode cX12_toffees 292 = .ok (.iaload, 1) := by decide +kernel
theorem dX12_toffees_293 : decode cX12_toffees 293 = .ok (.if_icmp .le 8, 3) := by decide +kernel
theorem dX12_toffees_296 : decode cX12_toffees 296 = .ok (.iload 8, 2) := by decide +kernel
theorem dX12_toffees_298 : decode cX12_toffees 298 = .ok (.goto 10, 3) := by decide +kernel
theorem dX12_toffees_301 : decode cX12_toffees 301 = .ok (.aload_n 0, 1) := by decide +kernel
theorem dX12_toffees_302 : decode cX12_toffees 302 = .ok (.getfield 173, 3) := by decide +kernel
theorem dX12_toffees_305 : decode cX12_toffees 305 = .ok (.iload 7, 2) := by decide +kernel
theorem dX12_toffees_307 : decode cX12_toffees 307 = .ok (.iaload, 1) := by decide +kernel
theorem dX12_toffees_308 : decode cX12_toffees 308 = .ok (.iastore, 1) := by decide +kernel
theorem dX12_toffees_309 : decode cX12_toffees 309 = .ok (.iinc 7 1, 3) := by decide +kernel
theorem dX12_toffees_312 : decode cX12_toffees 312 = .ok (.goto (-84), 3) := by decide +kernel
theorem dX12_toffees_315 : decode cX12_toffees 315 = .ok (.iinc 6 1, 3) := by decide +kernel
theorem dX12_toffees_318 : decode cX12_toffees 318 = .ok (.goto (-102), 3) := by decide +kernel
theorem dX12_toffees_321 : decode cX12_toffees 321 = .ok (.iinc 5 1, 3) := by decide +kernel
theorem dX12_toffees_324 : decode cX12_toffees 324 = .ok (.goto (-118), 3) := by decide +kernel
theorem dX12_toffees_327 : decode cX12_toffees 327 = .ok (.iload_n 2, 1) := by decide +kernel
theorem dX12_toffees_328 : decode cX12_toffees 328 = .ok (.ifCond .ge 7, 3) := by decide +kernel
theorem dX12_toffees_331 : decode cX12_toffees 331 = .ok (.iload_n 3, 1) := by decide +kernel
theorem dX12_toffees_332 : decode cX12_toffees 332 = .ok (.goto 9, 3) := by decide +kernel
theorem dX12_toffees_335 : decode cX12_toffees 335 = .ok (.aload_n 0, 1) := by decide +kernel
theorem dX12_toffees_336 : decode cX12_toffees 336 = .ok (.getfield 173, 3) := by decide +kernel
theorem dX12_toffees_339 : decode cX12_toffees 339 = .ok (.iload_n 2, 1) := by decide +kernel
theorem dX12_toffees_340 : decode cX12_toffees 340 = .ok (.iaload, 1) := by decide +kernel
theorem dX12_toffees_341 : decode cX12_toffees 341 = .ok (.ireturn, 1) := by decide +kernel
theorem dX12_common_0 : decode cX12_common 0 = .ok (.lload_n 0, 1) := by decide +kernel
theorem dX12_common_1 : decode cX12_common 1 = .ok (.lstore 4, 2) := by decide +kernel
theorem dX12_common_3 : decode cX12_common 3 = .ok (.lload_n 2, 1) := by decide +kernel
theorem dX12_common_4 : decode cX12_common 4 = .ok (.lstore 6, 2) := by decide +kernel
theorem dX12_common_6 : decode cX12_common 6 = .ok (.lload 6, 2) := by decide +kernel
theorem dX12_common_8 : decode cX12_common 8 = .ok (.lconst 0, 1) := by decide +kernel
theorem dX12_common_9 : decode cX12_common 9 = .ok (.lcmp, 1) := by decide +kernel
theorem dX12_common_10 : decode cX12_common 10 = .ok (.ifCond .eq 21, 3) := by decide +kernel
theorem dX12_common_13 : decode cX12_common 13 = .ok (.lload 4, 2) := by decide +kernel
theorem dX12_common_15 : decode cX12_common 15 = .ok (.lload 6, 2) := by decide +kernel
theorem dX12_common_17 : decode cX12_common 17 = .ok (.lrem, 1) := by decide +kernel
theorem dX12_common_18 : decode cX12_common 18 = .ok (.lstore 8, 2) := by decide +kernel
theorem dX12_common_20 : decode cX12_common 20 = .ok (.lload 6, 2) := by decide +kernel
theorem dX12_common_22 : decode cX12_common 22 = .ok (.lstore 4, 2) := by decide +kernel
theorem dX12_common_24 : decode cX12_common 24 = .ok (.lload 8, 2) := by decide +kernel
theorem dX12_common_26 : decode cX12_common 26 = .ok (.lstore 6, 2) := by decide +kernel
theorem dX12_common_28 : decode cX12_common 28 = .ok (.goto (-22), 3) := by decide +kernel
theorem dX12_common_31 : decode cX12_common 31 = .ok (.lload 4, 2) := by decide +kernel
theorem dX12_common_33 : decode cX12_common 33 = .ok (.lreturn, 1) := by decide +kernel
theorem dX12_adds_0 : decode cX12_adds 0 = .ok (.lload_n 1, 1) := by decide +kernel
theorem dX12_adds_1 : decode cX12_adds 1 = .ok (.lload_n 3, 1) := by decide +kernel
theorem dX12_adds_2 : decode cX12_adds 2 = .ok (.invokestatic 477, 3) := by decide +kernel
theorem dX12_adds_5 : decode cX12_adds 5 = .ok (.lstore 5, 2) := by decide +kernel
theorem dX12_adds_7 : decode cX12_adds 7 = .ok (.aload_n 0, 1) := by decide +kernel
theorem dX12_adds_8 : decode cX12_adds 8 = .ok (.aload_n 0, 1) := by decide +kernel
theorem dX12_adds_9 : decode cX12_adds 9 = .ok (.getfield 481, 3) := by decide +kernel
theorem dX12_adds_12 : decode cX12_adds 12 = .ok (.lload_n 3, 1) := by decide +kernel
theorem dX12_adds_13 : decode cX12_adds 13 = .ok (.lload 5, 2) := by decide +kernel
theorem dX12_adds_15 : decode cX12_adds 15 = .ok (.ldiv, 1) := by decide +kernel
theorem dX12_adds_16 : decode cX12_adds 16 = .ok (.lmul, 1) := by decide +kernel
theorem dX12_adds_17 : decode cX12_adds 17 = .ok (.lload_n 1, 1) := by decide +kernel
theorem dX12_adds_18 : decode cX12_adds 18 = .ok (.lload 5, 2) := by decide +kernel
theorem dX12_adds_20 : decode cX12_adds 20 = .ok (.ldiv, 1) := by decide +kernel
theorem dX12_adds_21 : decode cX12_adds 21 = .ok (.aload_n 0, 1) := by decide +kernel
theorem dX12_adds_22 : decode cX12_adds 22 = .ok (.getfield 485, 3) := by decide +kernel
theorem dX12_adds_25 : decode cX12_adds 25 = .ok (.lmul, 1) := by decide +kernel
theorem dX12_adds_26 : decode cX12_adds 26 = .ok (.ladd, 1) := by decide +kernel
theorem dX12_adds_27 : decode cX12_adds 27 = .ok (.putfield 481, 3) := by decide +kernel
theorem dX12_adds_30 : decode cX12_adds 30 = .ok (.aload_n 0, 1) := by decide +kernel
theorem dX12_adds_31 : decode cX12_adds 31 = .ok (.aload_n 0, 1) := by decide +kernel
theorem dX12_adds_32 : decode cX12_adds 32 = .ok (.getfield 485, 3) := by decide +kernel
theorem dX12_adds_35 : decode cX12_adds 35 = .ok (.lload_n 3, 1) := by decide +kernel
theorem dX12_adds_36 : decode cX12_adds 36 = .ok (.lload 5, 2) := by decide +kernel
theorem dX12_adds_38 : decode cX12_adds 38 = .ok (.ldiv, 1) := by decide +kernel
theorem dX12_adds_39 : decode cX12_adds 39 = .ok (.lmul, 1) := by decide +kernel
theorem dX12_adds_40 : decode cX12_adds 40 = .ok (.putfield 485, 3) := by decide +kernel
theorem dX12_adds_43 : decode cX12_adds 43 = .ok (.aload_n 0, 1) := by decide +kernel
theorem dX12_adds_44 : decode cX12_adds 44 = .ok (.getfield 481, 3) := by decide +kernel
theorem dX12_adds_47 : decode cX12_adds 47 = .ok (.aload_n 0, 1) := by decide +kernel
theorem dX12_adds_48 : decode cX12_adds 48 = .ok (.getfield 485, 3) := by decide +kernel
theorem dX12_adds_51 : decode cX12_adds 51 = .ok (.invokestatic 477, 3) := by decide +kernel
theorem dX12_adds_54 : decode cX12_adds 54 = .ok (.lstore 7, 2) := by decide +kernel
theorem dX12_adds_56 : decode cX12_adds 56 = .ok (.aload_n 0, 1) := by decide +kernel
theorem dX12_adds_57 : decode cX12_adds 57 = .ok (.aload_n 0, 1) := by decide +kernel
theorem dX12_adds_58 : decode cX12_adds 58 = .ok (.getfield 481, 3) := by decide +kernel
theorem dX12_adds_61 : decode cX12_adds 61 = .ok (.lload 7, 2) := by decide +kernel
theorem dX12_adds_63 : decode cX12_adds 63 = .ok (.ldiv, 1) := by decide +kernel
theorem dX12_adds_64 : decode cX12_adds 64 = .ok (.putfield 481, 3) := by decide +kernel
theorem dX12_adds_67 : decode cX12_adds 67 = .ok (.aload_n 0, 1) := by decide +kernel
theorem dX12_adds_68 : decode cX12_adds 68 = .ok (.aload_n 0, 1) := by decide +kernel
theorem dX12_adds_69 : decode cX12_adds 69 = .ok (.getfield 485, 3) := by decide +kernel
theorem dX12_adds_72 : decode cX12_adds 72 = .ok (.lload 7, 2) := by decide +kernel
theorem dX12_adds_74 : decode cX12_adds 74 = .ok (.ldiv, 1) := by decide +kernel
theorem dX12_adds_75 : decode cX12_adds 75 = .ok (.putfield 485, 3) := by decide +kernel
theorem dX12_adds_78 : decode cX12_adds 78 = .ok (.return_, 1) := by decide +kernel
theorem dX12_takes_0 : decode cX12_takes 0 = .ok (.iconst (-1), 1) := by decide +kernel
theorem dX12_takes_1 : decode cX12_takes 1 = .ok (.istore 4, 2) := by decide +kernel
theorem dX12_takes_3 : decode cX12_takes 3 = .ok (.iconst 0, 1) := by decide +kernel
theorem dX12_takes_4 : decode cX12_takes 4 = .ok (.istore 5, 2) := by decide +kernel
theorem dX12_takes_6 : decode cX12_takes 6 = .ok (.iload 5, 2) := by decide +kernel
theorem dX12_takes_8 : decode cX12_takes 8 = .ok (.aload_n 0, 1) := by decide +kernel
theorem dX12_takes_9 : decode cX12_takes 9 = .ok (.invokevirtual 331, 3) := by decide +kernel
theorem dX12_takes_12 : decode cX12_takes 12 = .ok (.if_icmp .ge 76, 3) := by decide +kernel
theorem dX12_takes_15 : decode cX12_takes 15 = .ok (.iload_n 3, 1) := by decide +kernel
theorem dX12_takes_16 : decode cX12_takes 16 = .ok (.iload 5, 2) := by decide +kernel
theorem dX12_takes_18 : decode cX12_takes 18 = .ok (.ishr, 1) := by decide +kernel
theorem dX12_takes_19 : decode cX12_takes 19 = .ok (.iconst 1, 1) := by decide +kernel
theorem dX12_takes_20 : decode cX12_takes 20 = .ok (.iand, 1) := by decide +kernel
theorem dX12_takes_21 : decode cX12_takes 21 = .ok (.iconst 1, 1) := by decide +kernel
theorem dX12_takes_22 : decode cX12_takes 22 = .ok (.if_icmp .ne 17, 3) := by decide +kernel
theorem dX12_takes_25 : decode cX12_takes 25 = .ok (.aload_n 0, 1) := by decide +kernel
theorem dX12_takes_26 : decode cX12_takes 26 = .ok (.iload_n 1, 1) := by decide +kernel
theorem dX12_takes_27 : decode cX12_takes 27 = .ok (.iload 5, 2) := by decide +kernel
theorem dX12_takes_29 : decode cX12_takes 29 = .ok (.invokevirtual 374, 3) := by decide +kernel
theorem dX12_takes_32 : decode cX12_takes 32 = .ok (.ifCond .eq 7, 3) := by decide +kernel
theorem dX12_takes_35 : decode cX12_takes 35 = .ok (.iconst 1, 1) := by decide +kernel
theorem dX12_takes_36 : decode cX12_takes 36 = .ok (.goto 4, 3) := by decide +kernel
theorem dX12_takes_39 : decode cX12_takes 39 = .ok (.iconst 0, 1) := by decide +kernel
theorem dX12_takes_40 : decode cX12_takes 40 = .ok (.istore 6, 2) := by decide +kernel
theorem dX12_takes_42 : decode cX12_takes 42 = .ok (.iload 6, 2) := by decide +kernel
theorem dX12_takes_44 : decode cX12_takes 44 = .ok (.ifCond .eq 34, 3) := by decide +kernel
theorem dX12_takes_47 : decode cX12_takes 47 = .ok (.iload 4, 2) := by decide +kernel
theorem dX12_takes_49 : decode cX12_takes 49 = .ok (.ifCond .lt 24, 3) := by decide +kernel
theorem dX12_takes_52 : decode cX12_takes 52 = .ok (.aload_n 0, 1) := by decide +kernel
theorem dX12_takes_53 : decode cX12_takes 53 = .ok (.iload_n 2, 1) := by decide +kernel
theorem dX12_takes_54 : decode cX12_takes 54 = .ok (.iconst 1, 1) := by decide +kernel
theorem dX12_takes_55 : decode cX12_takes 55 = .ok (.iload 5, 2) := by decide +kernel
theorem dX12_takes_57 : decode cX12_takes 57 = .ok (.iadd, 1) := by decide +kernel
theorem dX12_takes_58 : decode cX12_takes 58 = .ok (.invokevirtual 381, 3) := by decide +kernel
theorem dX12_takes_61 : decode cX12_takes 61 = .ok (.aload_n 0, 1) := by decide +kernel
theorem dX12_takes_62 : decode cX12_takes 62 = .ok (.iload_n 2, 1) := by decide +kernel
theorem dX12_takes_63 : decode cX12_takes 63 = .ok (.iconst 1, 1) := by decide +kernel
theorem dX12_takes_64 : decode cX12_takes 64 = .ok (.iload 4, 2) := by decide +kernel
theorem dX12_takes_66 : decode cX12_takes 66 = .ok (.iadd, 1) := by decide +kernel
theorem dX12_takes_67 : decode cX12_takes 67 = .ok (.invokevirtual 381, 3) := by decide +kernel
theorem dX12_takes_70 : decode cX12_takes 70 = .ok (.if_icmp .le 8, 3) := by decide +kernel
theorem dX12_takes_73 : decode cX12_takes 73 = .ok (.iload 5, 2) := by decide +kernel
theorem dX12_takes_75 : decode cX12_takes 75 = .ok (.goto 5, 3) := by decide +kernel
theorem dX12_takes_78 : decode cX12_takes 78 = .ok (.iload 4, 2) := by decide +kernel
theorem dX12_takes_80 : decode cX12_takes 80 = .ok (.istore 4, 2) := by decide +kernel
theorem dX12_takes_82 : decode cX12_takes 82 = .ok (.iinc 5 1, 3) := by decide +kernel
theorem dX12_takes_85 : decode cX12_takes 85 = .ok (.goto (-79), 3) := by decide +kernel
theorem dX12_takes_88 : decode cX12_takes 88 = .ok (.iload 4, 2) := by decide +kernel
theorem dX12_takes_90 : decode cX12_takes 90 = .ok (.ireturn, 1) := by decide +kernel
theorem dX12_dashes_0 : decode cX12_dashes 0 = .ok (.iconst 0, 1) := by decide +kernel
theorem dX12_dashes_1 : decode cX12_dashes 1 = .ok (.istore_n 2, 1) := by decide +kernel
theorem dX12_dashes_2 : decode cX12_dashes 2 = .ok (.iconst 0, 1) := by decide +kernel
theorem dX12_dashes_3 : decode cX12_dashes 3 = .ok (.istore_n 3, 1) := by decide +kernel
theorem dX12_dashes_4 : decode cX12_dashes 4 = .ok (.iload_n 3, 1) := by decide +kernel
theorem dX12_dashes_5 : decode cX12_dashes 5 = .ok (.aload_n 0, 1) := by decide +kernel
theorem dX12_dashes_6 : decode cX12_dashes 6 = .ok (.invokevirtual 334, 3) := by decide +kernel
theorem dX12_dashes_9 : decode cX12_dashes 9 = .ok (.if_icmp .ge 31, 3) := by decide +kernel
theorem dX12_dashes_12 : decode cX12_dashes 12 = .ok (.iload_n 2, 1) := by decide +kernel
theorem dX12_dashes_13 : decode cX12_dashes 13 = .ok (.iload_n 1, 1) := by decide +kernel
theorem dX12_dashes_14 : decode cX12_dashes 14 = .ok (.iload_n 3, 1) := by decide +kernel
theorem dX12_dashes_15 : decode cX12_dashes 15 = .ok (.ishr, 1) := by decide +kernel
theorem dX12_dashes_16 : decode cX12_dashes 16 = .ok (.iconst 1, 1) := by decide +kernel
theorem dX12_dashes_17 : decode cX12_dashes 17 = .ok (.iand, 1) := by decide +kernel
theorem dX12_dashes_18 : decode cX12_dashes 18 = .ok (.iconst 1, 1) := by decide +kernel
theorem dX12_dashes_19 : decode cX12_dashes 19 = .ok (.if_icmp .ne 12, 3) := by decide +kernel
theorem dX12_dashes_22 : decode cX12_dashes 22 = .ok (.aload_n 0, 1) := by decide +kernel
theorem dX12_dashes_23 : decode cX12_dashes 23 = .ok (.iload_n 3, 1) := by decide +kernel
theorem dX12_dashes_24 : decode cX12_dashes 24 = .ok (.iconst 1, 1) := by decide +kernel
theorem dX12_dashes_25 : decode cX12_dashes 25 = .ok (.invokevirtual 355, 3) := by decide +kernel
theorem dX12_dashes_28 : decode cX12_dashes 28 = .ok (.goto 4, 3) := by decide +kernel
theorem dX12_dashes_31 : decode cX12_dashes 31 = .ok (.iconst 0, 1) := by decide +kernel
theorem dX12_dashes_32 : decode cX12_dashes 32 = .ok (.iadd, 1) := by decide +kernel
theorem dX12_dashes_33 : decode cX12_dashes 33 = .ok (.istore_n 2, 1) := by decide +kernel
theorem dX12_dashes_34 : decode cX12_dashes 34 = .ok (.iinc 3 1, 3) := by decide +kernel
theorem dX12_dashes_37 : decode cX12_dashes 37 = .ok (.goto (-33), 3) := by decide +kernel
theorem dX12_dashes_40 : decode cX12_dashes 40 = .ok (.iload_n 2, 1) := by decide +kernel
theorem dX12_dashes_41 : decode cX12_dashes 41 = .ok (.ireturn, 1) := by decide +kernel
theorem dX12_comeIn_0 : decode cX12_comeIn 0 = .ok (.iconst 0, 1) := by decide +kernel
theorem dX12_comeIn_1 : decode cX12_comeIn 1 = .ok (.istore 10, 2) := by decide +kernel
theorem dX12_comeIn_3 : decode cX12_comeIn 3 = .ok (.iload 10, 2) := by decide +kernel
theorem dX12_comeIn_5 : decode cX12_comeIn 5 = .ok (.aload_n 0, 1) := by decide +kernel
theorem dX12_comeIn_6 : decode cX12_comeIn 6 = .ok (.invokevirtual 334, 3) := by decide +kernel
theorem dX12_comeIn_9 : decode cX12_comeIn 9 = .ok (.if_icmp .ge 116, 3) := by decide +kernel
theorem dX12_comeIn_12 : decode cX12_comeIn 12 = .ok (.iload_n 2, 1) := by decide +kernel
theorem dX12_comeIn_13 : decode cX12_comeIn 13 = .ok (.iload 10, 2) := by decide +kernel
theorem dX12_comeIn_15 : decode cX12_comeIn 15 = .ok (.ishr, 1) := by decide +kernel
theorem dX12_comeIn_16 : decode cX12_comeIn 16 = .ok (.iconst 1, 1) := by decide +kernel
theorem dX12_comeIn_17 : decode cX12_comeIn 17 = .ok (.iand, 1) := by decide +kernel
theorem dX12_comeIn_18 : decode cX12_comeIn 18 = .ok (.iconst 1, 1) := by decide +kernel
theorem dX12_comeIn_19 : decode cX12_comeIn 19 = .ok (.if_icmp .ne 100, 3) := by decide +kernel
theorem dX12_comeIn_22 : decode cX12_comeIn 22 = .ok (.aload_n 0, 1) := by decide +kernel
theorem dX12_comeIn_23 : decode cX12_comeIn 23 = .ok (.iload 10, 2) := by decide +kernel
theorem dX12_comeIn_25 : decode cX12_comeIn 25 = .ok (.iload_n 1, 1) := by decide +kernel
theorem dX12_comeIn_26 : decode cX12_comeIn 26 = .ok (.iload_n 3, 1) := by decide +kernel
theorem dX12_comeIn_27 : decode cX12_comeIn 27 = .ok (.invokevirtual 488, 3) := by decide +kernel
theorem dX12_comeIn_30 : decode cX12_comeIn 30 = .ok (.istore 11, 2) := by decide +kernel
theorem dX12_comeIn_32 : decode cX12_comeIn 32 = .ok (.lload 6, 2) := by decide +kernel
theorem dX12_comeIn_34 : decode cX12_comeIn 34 = .ok (.aload_n 0, 1) := by decide +kernel
theorem dX12_comeIn_35 : decode cX12_comeIn 35 = .ok (.iload 10, 2) := by decide +kernel
theorem dX12_comeIn_37 : decode cX12_comeIn 37 = .ok (.iconst 1, 1) := by decide +kernel
theorem dX12_comeIn_38 : decode cX12_comeIn 38 = .ok (.invokevirtual 355, 3) := by decide +kernel
theorem dX12_comeIn_41 : decode cX12_comeIn 41 = .ok (.i2l, 1) := by decide +kernel
theorem dX12_comeIn_42 : decode cX12_comeIn 42 = .ok (.lmul, 1) := by decide +kernel
theorem dX12_comeIn_43 : decode cX12_comeIn 43 = .ok (.lstore 12, 2) := by decide +kernel
theorem dX12_comeIn_45 : decode cX12_comeIn 45 = .ok (.lload 8, 2) := by decide +kernel
theorem dX12_comeIn_47 : decode cX12_comeIn 47 = .ok (.aload_n 0, 1) := by decide +kernel
theorem dX12_comeIn_48 : decode cX12_comeIn 48 = .ok (.iload_n 2, 1) := by decide +kernel
theorem dX12_comeIn_49 : decode cX12_comeIn 49 = .ok (.invokevirtual 491, 3) := by decide +kernel
theorem dX12_comeIn_52 : decode cX12_comeIn 52 = .ok (.i2l, 1) := by decide +kernel
theorem dX12_comeIn_53 : decode cX12_comeIn 53 = .ok (.lmul, 1) := by decide +kernel
theorem dX12_comeIn_54 : decode cX12_comeIn 54 = .ok (.lstore 14, 2) := by decide +kernel
theorem dX12_comeIn_56 : decode cX12_comeIn 56 = .ok (.iload 10, 2) := by decide +kernel
theorem dX12_comeIn_58 : decode cX12_comeIn 58 = .ok (.iload 4, 2) := by decide +kernel
theorem dX12_comeIn_60 : decode cX12_comeIn 60 = .ok (.if_icmp .ne 21, 3) := by decide +kernel
theorem dX12_comeIn_63 : decode cX12_comeIn 63 = .ok (.iload 11, 2) := by decide +kernel
theorem dX12_comeIn_65 : decode cX12_comeIn 65 = .ok (.iload 5, 2) := by decide +kernel
theorem dX12_comeIn_67 : decode cX12_comeIn 67 = .ok (.if_icmp .ne 52, 3) := by decide +kernel
theorem dX12_comeIn_70 : decode cX12_comeIn 70 = .ok (.aload_n 0, 1) := by decide +kernel
theorem dX12_comeIn_71 : decode cX12_comeIn 71 = .ok (.lload 12, 2) := by decide +kernel
theorem dX12_comeIn_73 : decode cX12_comeIn 73 = .ok (.lload 14, 2) := by decide +kernel
theorem dX12_comeIn_75 : decode cX12_comeIn 75 = .ok (.invokevirtual 494, 3) := by decide +kernel
theorem dX12_comeIn_78 : decode cX12_comeIn 78 = .ok (.goto 41, 3) := by decide +kernel
theorem dX12_comeIn_81 : decode cX12_comeIn 81 = .ok (.aload_n 0, 1) := by decide +kernel
theorem dX12_comeIn_82 : decode cX12_comeIn 82 = .ok (.iload_n 1, 1) := by decide +kernel
theorem dX12_comeIn_83 : decode cX12_comeIn 83 = .ok (.iload_n 2, 1) := by decide +kernel
theorem dX12_comeIn_84 : decode cX12_comeIn 84 = .ok (.iconst 1, 1) := by decide +kernel
theorem dX12_comeIn_85 : decode cX12_comeIn 85 = .ok (.iload 10, 2) := by decide +kernel
theorem dX12_comeIn_87 : decode cX12_comeIn 87 = .ok (.ishl, 1) := by decide +kernel
theorem dX12_comeIn_88 : decode cX12_comeIn 88 = .ok (.iconst (-1), 1) := by decide +kernel
theorem dX12_comeIn_89 : decode cX12_comeIn 89 = .ok (.ixor, 1) := by decide +kernel
theorem dX12_comeIn_90 : decode cX12_comeIn 90 = .ok (.iand, 1) := by decide +kernel
theorem dX12_comeIn_91 : decode cX12_comeIn 91 = .ok (.iload 11, 2) := by decide +kernel
theorem dX12_comeIn_93 : decode cX12_comeIn 93 = .ok (.ifCond .ge 7, 3) := by decide +kernel
theorem dX12_comeIn_96 : decode cX12_comeIn 96 = .ok (.iload_n 3, 1) := by decide +kernel
theorem dX12_comeIn_97 : decode cX12_comeIn 97 = .ok (.goto 11, 3) := by decide +kernel
theorem dX12_comeIn_100 : decode cX12_comeIn 100 = .ok (.iload_n 3, 1) := by decide +kernel
theorem dX12_comeIn_101 : decode cX12_comeIn 101 = .ok (.iconst 1, 1) := by decide +kernel
theorem dX12_comeIn_102 : decode cX12_comeIn 102 = .ok (.iload 11, 2) := by decide +kernel
theorem dX12_comeIn_104 : decode cX12_comeIn 104 = .ok (.ishl, 1) := by decide +kernel
theorem dX12_comeIn_105 : decode cX12_comeIn 105 = .ok (.iconst (-1), 1) := by decide +kernel
theorem dX12_comeIn_106 : decode cX12_comeIn 106 = .ok (.ixor, 1) := by decide +kernel
theorem dX12_comeIn_107 : decode cX12_comeIn 107 = .ok (.iand, 1) := by decide +kernel
theorem dX12_comeIn_108 : decode cX12_comeIn 108 = .ok (.iload 4, 2) := by decide +kernel
theorem dX12_comeIn_110 : decode cX12_comeIn 110 = .ok (.iload 5, 2) := by decide +kernel
theorem dX12_comeIn_112 : decode cX12_comeIn 112 = .ok (.lload 12, 2) := by decide +kernel
theorem dX12_comeIn_114 : decode cX12_comeIn 114 = .ok (.lload 14, 2) := by decide +kernel
theorem dX12_comeIn_116 : decode cX12_comeIn 116 = .ok (.invokevirtual 498, 3) := by decide +kernel
theorem dX12_comeIn_119 : decode cX12_comeIn 119 = .ok (.iinc 10 1, 3) := by decide +kernel
theorem dX12_comeIn_122 : decode cX12_comeIn 122 = .ok (.goto (-119), 3) := by decide +kernel
theorem dX12_comeIn_125 : decode cX12_comeIn 125 = .ok (.return_, 1) := by decide +kernel
theorem dX12_door_0 : decode cX12_door 0 = .ok (.aload_n 0, 1) := by decide +kernel
theorem dX12_door_1 : decode cX12_door 1 = .ok (.iconst 0, 1) := by decide +kernel
theorem dX12_door_2 : decode cX12_door 2 = .ok (.putfield 1, 3) := by decide +kernel
theorem dX12_door_5 : decode cX12_door 5 = .ok (.aload_n 0, 1) := by decide +kernel
theorem dX12_door_6 : decode cX12_door 6 = .ok (.iload_n 1, 1) := by decide +kernel
theorem dX12_door_7 : decode cX12_door 7 = .ok (.invokevirtual 390, 3) := by decide +kernel
theorem dX12_door_10 : decode cX12_door 10 = .ok (.ifCond .eq 29, 3) := by decide +kernel
theorem dX12_door_13 : decode cX12_door 13 = .ok (.aload_n 0, 1) := by decide +kernel
theorem dX12_door_14 : decode cX12_door 14 = .ok (.iload_n 2, 1) := by decide +kernel
theorem dX12_door_15 : decode cX12_door 15 = .ok (.invokevirtual 387, 3) := by decide +kernel
theorem dX12_door_18 : decode cX12_door 18 = .ok (.ifCond .eq 21, 3) := by decide +kernel
theorem dX12_door_21 : decode cX12_door 21 = .ok (.aload_n 0, 1) := by decide +kernel
theorem dX12_door_22 : decode cX12_door 22 = .ok (.iload_n 3, 1) := by decide +kernel
theorem dX12_door_23 : decode cX12_door 23 = .ok (.invokevirtual 406, 3) := by decide +kernel
theorem dX12_door_26 : decode cX12_door 26 = .ok (.ifCond .eq 13, 3) := by decide +kernel
theorem dX12_door_29 : decode cX12_door 29 = .ok (.iload 4, 2) := by decide +kernel
theorem dX12_door_31 : decode cX12_door 31 = .ok (.iconst 0, 1) := by decide +kernel
theorem dX12_door_32 : decode cX12_door 32 = .ok (.iconst 1, 1) := by decide +kernel
theorem dX12_door_33 : decode cX12_door 33 = .ok (.invokestatic 308, 3) := by decide +kernel
theorem dX12_door_36 : decode cX12_door 36 = .ok (.ifCond .ne 7, 3) := by decide +kernel
theorem dX12_door_39 : decode cX12_door 39 = .ok (.ldc2_w 502, 3) := by decide +kernel
theorem dX12_door_42 : decode cX12_door 42 = .ok (.lreturn, 1) := by decide +kernel
theorem dX12_door_43 : decode cX12_door 43 = .ok (.aload_n 0, 1) := by decide +kernel
theorem dX12_door_44 : decode cX12_door 44 = .ok (.lconst 0, 1) := by decide +kernel
theorem dX12_door_45 : decode cX12_door 45 = .ok (.putfield 481, 3) := by decide +kernel
theorem dX12_door_48 : decode cX12_door 48 = .ok (.aload_n 0, 1) := by decide +kernel
theorem dX12_door_49 : decode cX12_door 49 = .ok (.lconst 1, 1) := by decide +kernel
theorem dX12_door_50 : decode cX12_door 50 = .ok (.putfield 485, 3) := by decide +kernel
theorem dX12_door_53 : decode cX12_door 53 = .ok (.aload_n 0, 1) := by decide +kernel
theorem dX12_door_54 : decode cX12_door 54 = .ok (.iload_n 1, 1) := by decide +kernel
theorem dX12_door_55 : decode cX12_door 55 = .ok (.iconst 1, 1) := by decide +kernel
theorem dX12_door_56 : decode cX12_door 56 = .ok (.aload_n 0, 1) := by decide +kernel
theorem dX12_door_57 : decode cX12_door 57 = .ok (.invokevirtual 334, 3) := by decide +kernel
theorem dX12_door_60 : decode cX12_door 60 = .ok (.ishl, 1) := by decide +kernel
theorem dX12_door_61 : decode cX12_door 61 = .ok (.iconst 1, 1) := by decide +kernel
theorem dX12_door_62 : decode cX12_door 62 = .ok (.isub, 1) := by decide +kernel
theorem dX12_door_63 : decode cX12_door 63 = .ok (.iconst 1, 1) := by decide +kernel
theorem dX12_door_64 : decode cX12_door 64 = .ok (.aload_n 0, 1) := by decide +kernel
theorem dX12_door_65 : decode cX12_door 65 = .ok (.invokevirtual 331, 3) := by decide +kernel
theorem dX12_door_68 : decode cX12_door 68 = .ok (.ishl, 1) := by decide +kernel
theorem dX12_door_69 : decode cX12_door 69 = .ok (.iconst 1, 1) := by decide +kernel
theorem dX12_door_70 : decode cX12_door 70 = .ok (.isub, 1) := by decide +kernel
theorem dX12_door_71 : decode cX12_door 71 = .ok (.iload_n 2, 1) := by decide +kernel
theorem dX12_door_72 : decode cX12_door 72 = .ok (.iload_n 3, 1) := by decide +kernel
theorem dX12_door_73 : decode cX12_door 73 = .ok (.lconst 1, 1) := by decide +kernel
theorem dX12_door_74 : decode cX12_door 74 = .ok (.lconst 1, 1) := by decide +kernel
theorem dX12_door_75 : decode cX12_door 75 = .ok (.invokevirtual 498, 3) := by decide +kernel
theorem dX12_door_78 : decode cX12_door 78 = .ok (.iload 4, 2) := by decide +kernel
theorem dX12_door_80 : decode cX12_door 80 = .ok (.ifCond .ne 10, 3) := by decide +kernel
theorem dX12_door_83 : decode cX12_door 83 = .ok (.aload_n 0, 1) := by decide +kernel
theorem dX12_door_84 : decode cX12_door 84 = .ok (.getfield 481, 3) := by decide +kernel
theorem dX12_door_87 : decode cX12_door 87 = .ok (.goto 7, 3) := by decide +kernel
theorem dX12_door_90 : decode cX12_door 90 = .ok (.aload_n 0, 1) := by decide +kernel
theorem dX12_door_91 : decode cX12_door 91 = .ok (.getfield 485, 3) := by decide +kernel
theorem dX12_door_94 : decode cX12_door 94 = .ok (.lreturn, 1) := by decide +kernel
theorem dX12_planOf_0 : decode cX12_planOf 0 = .ok (.iconst 0, 1) := by decide +kernel
theorem dX12_planOf_1 : decode cX12_planOf 1 = .ok (.istore_n 1, 1) := by decide +kernel
theorem dX12_planOf_2 : decode cX12_planOf 2 = .ok (.iconst 0, 1) := by decide +kernel
theorem dX12_planOf_3 : decode cX12_planOf 3 = .ok (.istore_n 2, 1) := by decide +kernel
theorem dX12_planOf_4 : decode cX12_planOf 4 = .ok (.iload_n 2, 1) := by decide +kernel
theorem dX12_planOf_5 : decode cX12_planOf 5 = .ok (.aload_n 0, 1) := by decide +kernel
theorem dX12_planOf_6 : decode cX12_planOf 6 = .ok (.invokevirtual 334, 3) := by decide +kernel
theorem dX12_planOf_9 : decode cX12_planOf 9 = .ok (.if_icmp .ge 20, 3) := by decide +kernel
theorem dX12_planOf_12 : decode cX12_planOf 12 = .ok (.iconst 4, 1) := by decide +kernel
theorem dX12_planOf_13 : decode cX12_planOf 13 = .ok (.iload_n 1, 1) := by decide +kernel
theorem dX12_planOf_14 : decode cX12_planOf 14 = .ok (.imul, 1) := by decide +kernel
theorem dX12_planOf_15 : decode cX12_planOf 15 = .ok (.aload_n 0, 1) := by decide +kernel
theorem dX12_planOf_16 : decode cX12_planOf 16 = .ok (.getfield 137, 3) := by decide +kernel
theorem dX12_planOf_19 : decode cX12_planOf 19 = .ok (.iload_n 2, 1) := by decide +kernel
theorem dX12_planOf_20 : decode cX12_planOf 20 = .ok (.iaload, 1) := by decide +kernel
theorem dX12_planOf_21 : decode cX12_planOf 21 = .ok (.iadd, 1) := by decide +kernel
theorem dX12_planOf_22 : decode cX12_planOf 22 = .ok (.istore_n 1, 1) := by decide +kernel
theorem dX12_planOf_23 : decode cX12_planOf 23 = .ok (.iinc 2 1, 3) := by decide +kernel
theorem dX12_planOf_26 : decode cX12_planOf 26 = .ok (.goto (-22), 3) := by decide +kernel
theorem dX12_planOf_29 : decode cX12_planOf 29 = .ok (.iload_n 1, 1) := by decide +kernel
theorem dX12_planOf_30 : decode cX12_planOf 30 = .ok (.ireturn, 1) := by decide +kernel
theorem dX12_isJourney_0 : decode cX12_isJourney 0 = .ok (.iconst 1, 1) := by decide +kernel
theorem dX12_isJourney_1 : decode cX12_isJourney 1 = .ok (.istore_n 2, 1) := by decide +kernel
theorem dX12_isJourney_2 : decode cX12_isJourney 2 = .ok (.iconst 0, 1) := by decide +kernel
theorem dX12_isJourney_3 : decode cX12_isJourney 3 = .ok (.istore_n 3, 1) := by decide +kernel
theorem dX12_isJourney_4 : decode cX12_isJourney 4 = .ok (.iload_n 3, 1) := by decide +kernel
theorem dX12_isJourney_5 : decode cX12_isJourney 5 = .ok (.aload_n 0, 1) := by decide +kernel
theorem dX12_isJourney_6 : decode cX12_isJourney 6 = .ok (.invokevirtual 334, 3) := by decide +kernel
theorem dX12_isJourney_9 : decode cX12_isJourney 9 = .ok (.if_icmp .ge 28, 3) := by decide +kernel
theorem dX12_isJourney_12 : decode cX12_isJourney 12 = .ok (.aload_n 0, 1) := by decide +kernel
theorem dX12_isJourney_13 : decode cX12_isJourney 13 = .ok (.getfield 152, 3) := by decide +kernel
theorem dX12_isJourney_16 : decode cX12_isJourney 16 = .ok (.iload_n 3, 1) := by decide +kernel
theorem dX12_isJourney_17 : decode cX12_isJourney 17 = .ok (.aload_n 0, 1) := by decide +kernel
theorem dX12_isJourney_18 : decode cX12_isJourney 18 = .ok (.iload_n 3, 1) := by decide +kernel
theorem dX12_isJourney_19 : decode cX12_isJourney 19 = .ok (.iconst 2, 1) := by decide +kernel
theorem dX12_isJourney_20 : decode cX12_isJourney 20 = .ok (.invokevirtual 355, 3) := by decide +kernel
theorem dX12_isJourney_23 : decode cX12_isJourney 23 = .ok (.iastore, 1) := by decide +kernel
theorem dX12_isJourney_24 : decode cX12_isJourney 24 = .ok (.aload_n 0, 1) := by decide +kernel
theorem dX12_isJourney_25 : decode cX12_isJourney 25 = .ok (.getfield 182, 3) := by decide +kernel
theorem dX12_isJourney_28 : decode cX12_isJourney 28 = .ok (.iload_n 3, 1) := by decide +kernel
theorem dX12_isJourney_29 : decode cX12_isJourney 29 = .ok (.iload_n 3, 1) := by decide +kernel
theorem dX12_isJourney_30 : decode cX12_isJourney 30 = .ok (.iastore, 1) := by decide +kernel
theorem dX12_isJourney_31 : decode cX12_isJourney 31 = .ok (.iinc 3 1, 3) := by decide +kernel
theorem dX12_isJourney_34 : decode cX12_isJourney 34 = .ok (.goto (-30), 3) := by decide +kernel
theorem dX12_isJourney_37 : decode cX12_isJourney 37 = .ok (.iconst 0, 1) := by decide +kernel
theorem dX12_isJourney_38 : decode cX12_isJourney 38 = .ok (.istore_n 3, 1) := by decide +kernel
theorem dX12_isJourney_39 : decode cX12_isJourney 39 = .ok (.iload_n 3, 1) := by decide +kernel
theorem dX12_isJourney_40 : decode cX12_isJourney 40 = .ok (.aload_n 0, 1) := by decide +kernel
theorem dX12_isJourney_41 : decode cX12_isJourney 41 = .ok (.invokevirtual 368, 3) := by decide +kernel
theorem dX12_isJourney_44 : decode cX12_isJourney 44 = .ok (.if_icmp .ge 255, 3) := by decide +kernel
theorem dX12_isJourney_47 : decode cX12_isJourney 47 = .ok (.iload_n 2, 1) := by decide +kernel
theorem dX12_isJourney_48 : decode cX12_isJourney 48 = .ok (.ifCond .eq 251, 3) := by decide +kernel
theorem dX12_isJourney_51 : decode cX12_isJourney 51 = .ok (.iconst 0, 1) := by decide +kernel
theorem dX12_isJourney_52 : decode cX12_isJourney 52 = .ok (.istore 4, 2) := by decide +kernel
theorem dX12_isJourney_54 : decode cX12_isJourney 54 = .ok (.iload 4, 2) := by decide +kernel
theorem dX12_isJourney_56 : decode cX12_isJourney 56 = .ok (.aload_n 0, 1) := by decide +kernel
theorem dX12_isJourney_57 : decode cX12_isJourney 57 = .ok (.invokevirtual 334, 3) := by decide +kernel
theorem dX12_isJourney_60 : decode cX12_isJourney 60 = .ok (.if_icmp .ge 81, 3) := by decide +kernel
theorem dX12_isJourney_63 : decode cX12_isJourney 63 = .ok (.aload_n 0, 1) := by decide +kernel
theorem dX12_isJourney_64 : decode cX12_isJourney 64 = .ok (.getfield 124, 3) := by decide +kernel
theorem dX12_isJourney_67 : decode cX12_isJourney 67 = .ok (.iconst 0, 1) := by decide +kernel
theorem dX12_isJourney_68 : decode cX12_isJourney 68 = .ok (.aload_n 0, 1) := by decide +kernel
theorem dX12_isJourney_69 : decode cX12_isJourney 69 = .ok (.getfield 182, 3) := by decide +kernel
theorem dX12_isJourney_72 : decode cX12_isJourney 72 = .ok (.iload 4, 2) := by decide +kernel
theorem dX12_isJourney_74 : decode cX12_isJourney 74 = .ok (.iaload, 1) := by decide +kernel
theorem dX12_isJourney_75 : decode cX12_isJourney 75 = .ok (.iastore, 1) := by decide +kernel
theorem dX12_isJourney_76 : decode cX12_isJourney 76 = .ok (.aload_n 0, 1) := by decide +kernel
theorem dX12_isJourney_77 : decode cX12_isJourney 77 = .ok (.getfield 124, 3) := by decide +kernel
theorem dX12_isJourney_80 : decode cX12_isJourney 80 = .ok (.iconst 1, 1) := by decide +kernel
theorem dX12_isJourney_81 : decode cX12_isJourney 81 = .ok (.iload_n 3, 1) := by decide +kernel
theorem dX12_isJourney_82 : decode cX12_isJourney 82 = .ok (.iastore, 1) := by decide +kernel
theorem dX12_isJourney_83 : decode cX12_isJourney 83 = .ok (.aload_n 0, 1) := by decide +kernel
theorem dX12_isJourney_84 : decode cX12_isJourney 84 = .ok (.getfield 124, 3) := by decide +kernel
theorem dX12_isJourney_87 : decode cX12_isJourney 87 = .ok (.iconst 2, 1) := by decide +kernel
theorem dX12_isJourney_88 : decode cX12_isJourney 88 = .ok (.iload 4, 2) := by decide +kernel
theorem dX12_isJourney_90 : decode cX12_isJourney 90 = .ok (.iastore, 1) := by decide +kernel
theorem dX12_isJourney_91 : decode cX12_isJourney 91 = .ok (.aload_n 0, 1) := by decide +kernel
theorem dX12_isJourney_92 : decode cX12_isJourney 92 = .ok (.aload_n 0, 1) := by decide +kernel
theorem dX12_isJourney_93 : decode cX12_isJourney 93 = .ok (.getfield 97, 3) := by decide +kernel
theorem dX12_isJourney_96 : decode cX12_isJourney 96 = .ok (.bipush 6, 2) := by decide +kernel
theorem dX12_isJourney_98 : decode cX12_isJourney 98 = .ok (.iload_n 1, 1) := by decide +kernel
theorem dX12_isJourney_99 : decode cX12_isJourney 99 = .ok (.iadd, 1) := by decide +kernel
theorem dX12_isJourney_100 : decode cX12_isJourney 100 = .ok (.iaload, 1) := by decide +kernel
theorem dX12_isJourney_101 : decode cX12_isJourney 101 = .ok (.invokevirtual 384, 3) := by decide +kernel
theorem dX12_isJourney_104 : decode cX12_isJourney 104 = .ok (.aload_n 0, 1) := by decide +kernel
theorem dX12_isJourney_105 : decode cX12_isJourney 105 = .ok (.invokevirtual 331, 3) := by decide +kernel
theorem dX12_isJourney_108 : decode cX12_isJourney 108 = .ok (.irem, 1) := by decide +kernel
theorem dX12_isJourney_109 : decode cX12_isJourney 109 = .ok (.istore 5, 2) := by decide +kernel
theorem dX12_isJourney_111 : decode cX12_isJourney 111 = .ok (.aload_n 0, 1) := by decide +kernel
theorem dX12_isJourney_112 : decode cX12_isJourney 112 = .ok (.getfield 137, 3) := by decide +kernel
theorem dX12_isJourney_115 : decode cX12_isJourney 115 = .ok (.iload 4, 2) := by decide +kernel
theorem dX12_isJourney_117 : decode cX12_isJourney 117 = .ok (.iload 5, 2) := by decide +kernel
theorem dX12_isJourney_119 : decode cX12_isJourney 119 = .ok (.ifCond .ge 13, 3) := by decide +kernel
theorem dX12_isJourney_122 : decode cX12_isJourney 122 = .ok (.iload 5, 2) := by decide +kernel
theorem dX12_isJourney_124 : decode cX12_isJourney 124 = .ok (.aload_n 0, 1) := by decide +kernel
theorem dX12_isJourney_125 : decode cX12_isJourney 125 = .ok (.invokevirtual 331, 3) := by decide +kernel
theorem dX12_isJourney_128 : decode cX12_isJourney 128 = .ok (.iadd, 1) := by decide +kernel
theorem dX12_isJourney_129 : decode cX12_isJourney 129 = .ok (.goto 5, 3) := by decide +kernel
theorem dX12_isJourney_132 : decode cX12_isJourney 132 = .ok (.iload 5, 2) := by decide +kernel
theorem dX12_isJourney_134 : decode cX12_isJourney 134 = .ok (.iastore, 1) := by decide +kernel
theorem dX12_isJourney_135 : decode cX12_isJourney 135 = .ok (.iinc 4 1, 3) := by decide +kernel
theorem dX12_isJourney_138 : decode cX12_isJourney 138 = .ok (.goto (-84), 3) := by decide +kernel
theorem dX12_isJourney_141 : decode cX12_isJourney 141 = .ok (.aload_n 0, 1) := by decide +kernel
theorem dX12_isJourney_142 : decode cX12_isJourney 142 = .ok (.invokevirtual 504, 3) := by decide +kernel
theorem dX12_isJourney_145 : decode cX12_isJourney 145 = .ok (.istore 4, 2) := by decide +kernel
theorem dX12_isJourney_147 : decode cX12_isJourney 147 = .ok (.aload_n 0, 1) := by decide +kernel
theorem dX12_isJourney_148 : decode cX12_isJourney 148 = .ok (.iload 4, 2) := by decide +kernel
theorem dX12_isJourney_150 : decode cX12_isJourney 150 = .ok (.invokevirtual 393, 3) := by decide +kernel
theorem dX12_isJourney_153 : decode cX12_isJourney 153 = .ok (.ifCond .eq 14, 3) := by decide +kernel
theorem dX12_isJourney_156 : decode cX12_isJourney 156 = .ok (.aload_n 0, 1) := by decide +kernel
theorem dX12_isJourney_157 : decode cX12_isJourney 157 = .ok (.invokevirtual 396, 3) := by decide +kernel
theorem dX12_isJourney_160 : decode cX12_isJourney 160 = .ok (.ifCond .eq 7, 3) := by decide +kernel
theorem dX12_isJourney_163 : decode cX12_isJourney 163 = .ok (.iconst 1, 1) := by decide +kernel
theorem dX12_isJourney_164 : decode cX12_isJourney 164 = .ok (.goto 4, 3) := by decide +kernel
theorem dX12_isJourney_167 : decode cX12_isJourney 167 = .ok (.iconst 0, 1) := by decide +kernel
theorem dX12_isJourney_168 : decode cX12_isJourney 168 = .ok (.istore_n 2, 1) := by decide +kernel
theorem dX12_isJourney_169 : decode cX12_isJourney 169 = .ok (.iconst 0, 1) := by decide +kernel
theorem dX12_isJourney_170 : decode cX12_isJourney 170 = .ok (.istore 5, 2) := by decide +kernel
theorem dX12_isJourney_172 : decode cX12_isJourney 172 = .ok (.iload 5, 2) := by decide +kernel
theorem dX12_isJourney_174 : decode cX12_isJourney 174 = .ok (.aload_n 0, 1) := by decide +kernel
theorem dX12_isJourney_175 : decode cX12_isJourney 175 = .ok (.invokevirtual 334, 3) := by decide +kernel
theorem dX12_isJourney_178 : decode cX12_isJourney 178 = .ok (.if_icmp .ge 75, 3) := by decide +kernel
theorem dX12_isJourney_181 : decode cX12_isJourney 181 = .ok (.iload_n 2, 1) := by decide +kernel
theorem dX12_isJourney_182 : decode cX12_isJourney 182 = .ok (.ifCond .eq 71, 3) := by decide +kernel
theorem dX12_isJourney_185 : decode cX12_isJourney 185 = .ok (.aload_n 0, 1) := by decide +kernel
theorem dX12_isJourney_186 : decode cX12_isJourney 186 = .ok (.getfield 152, 3) := by decide +kernel
theorem dX12_isJourney_189 : decode cX12_isJourney 189 = .ok (.iload 5, 2) := by decide +kernel
theorem dX12_isJourney_191 : decode cX12_isJourney 191 = .ok (.dup2, 1) := by decide +kernel
theorem dX12_isJourney_192 : decode cX12_isJourney 192 = .ok (.iaload, 1) := by decide +kernel
theorem dX12_isJourney_193 : decode cX12_isJourney 193 = .ok (.aload_n 0, 1) := by decide +kernel
theorem dX12_isJourney_194 : decode cX12_isJourney 194 = .ok (.iload 5, 2) := by decide +kernel
theorem dX12_isJourney_196 : decode cX12_isJourney 196 = .ok (.aload_n 0, 1) := by decide +kernel
theorem dX12_isJourney_197 : decode cX12_isJourney 197 = .ok (.getfield 137, 3) := by decide +kernel
theorem dX12_isJourney_200 : decode cX12_isJourney 200 = .ok (.iload 5, 2) := by decide +kernel
theorem dX12_isJourney_202 : decode cX12_isJourney 202 = .ok (.iaload, 1) := by decide +kernel
theorem dX12_isJourney_203 : decode cX12_isJourney 203 = .ok (.iload_n 3, 1) := by decide +kernel
theorem dX12_isJourney_204 : decode cX12_isJourney 204 = .ok (.aload_n 0, 1) := by decide +kernel
theorem dX12_isJourney_205 : decode cX12_isJourney 205 = .ok (.iload 5, 2) := by decide +kernel
theorem dX12_isJourney_207 : decode cX12_isJourney 207 = .ok (.invokevirtual 399, 3) := by decide +kernel
theorem dX12_isJourney_210 : decode cX12_isJourney 210 = .ok (.invokevirtual 402, 3) := by decide +kernel
theorem dX12_isJourney_213 : decode cX12_isJourney 213 = .ok (.iload_n 3, 1) := by decide +kernel
theorem dX12_isJourney_214 : decode cX12_isJourney 214 = .ok (.ifCond .le 29, 3) := by decide +kernel
theorem dX12_isJourney_217 : decode cX12_isJourney 217 = .ok (.aload_n 0, 1) := by decide +kernel
theorem dX12_isJourney_218 : decode cX12_isJourney 218 = .ok (.getfield 182, 3) := by decide +kernel
theorem dX12_isJourney_221 : decode cX12_isJourney 221 = .ok (.iload 5, 2) := by decide +kernel
theorem dX12_isJourney_223 : decode cX12_isJourney 223 = .ok (.iaload, 1) := by decide +kernel
theorem dX12_isJourney_224 : decode cX12_isJourney 224 = .ok (.aload_n 0, 1) := by decide +kernel
theorem dX12_isJourney_225 : decode cX12_isJourney 225 = .ok (.getfield 137, 3) := by decide +kernel
theorem dX12_isJourney_228 : decode cX12_isJourney 228 = .ok (.iload 5, 2) := by decide +kernel
theorem dX12_isJourney_230 : decode cX12_isJourney 230 = .ok (.iaload, 1) := by decide +kernel
theorem dX12_isJourney_231 : decode cX12_isJourney 231 = .ok (.if_icmp .eq 12, 3) := by decide +kernel
theorem dX12_isJourney_234 : decode cX12_isJourney 234 = .ok (.aload_n 0, 1) := by decide +kernel
theorem dX12_isJourney_235 : decode cX12_isJourney 235 = .ok (.getfield 97, 3) := by decide +kernel
theorem dX12_isJourney_238 : decode cX12_isJourney 238 = .ok (.iconst 4, 1) := by decide +kernel
theorem dX12_isJourney_239 : decode cX12_isJourney 239 = .ok (.iaload, 1) := by decide +kernel
theorem dX12_isJourney_240 : decode cX12_isJourney 240 = .ok (.goto 4, 3) := by decide +kernel
theorem dX12_isJourney_243 : decode cX12_isJourney 243 = .ok (.iconst 0, 1) := by decide +kernel
theorem dX12_isJourney_244 : decode cX12_isJourney 244 = .ok (.isub, 1) := by decide +kernel
theorem dX12_isJourney_245 : decode cX12_isJourney 245 = .ok (.iadd, 1) := by decide +kernel
theorem dX12_isJourney_246 : decode cX12_isJourney 246 = .ok (.iastore, 1) := by decide +kernel
theorem dX12_isJourney_247 : decode cX12_isJourney 247 = .ok (.iinc 5 1, 3) := by decide +kernel
theorem dX12_isJourney_250 : decode cX12_isJourney 250 = .ok (.goto (-78), 3) := by decide +kernel
theorem dX12_isJourney_253 : decode cX12_isJourney 253 = .ok (.iconst 0, 1) := by decide +kernel
theorem dX12_isJourney_254 : decode cX12_isJourney 254 = .ok (.istore 5, 2) := by decide +kernel
theorem dX12_isJourney_256 : decode cX12_isJourney 256 = .ok (.iload 5, 2) := by decide +kernel
theorem dX12_isJourney_258 : decode cX12_isJourney 258 = .ok (.aload_n 0, 1) := by decide +kernel
theorem dX12_isJourney_259 : decode cX12_isJourney 259 = .ok (.invokevirtual 334, 3) := by decide +kernel
theorem dX12_isJourney_262 : decode cX12_isJourney 262 = .ok (.if_icmp .ge 23, 3) := by decide +kernel
theorem dX12_isJourney_265 : decode cX12_isJourney 265 = .ok (.aload_n 0, 1) := by decide +kernel
theorem dX12_isJourney_266 : decode cX12_isJourney 266 = .ok (.getfield 182, 3) := by decide +kernel
theorem dX12_isJourney_269 : decode cX12_isJourney 269 = .ok (.iload 5, 2) := by decide +kernel
theorem dX12_isJourney_271 : decode cX12_isJourney 271 = .ok (.aload_n 0, 1) := by decide +kernel
theorem dX12_isJourney_272 : decode cX12_isJourney 272 = .ok (.getfield 137, 3) := by decide +kernel
theorem dX12_isJourney_275 : decode cX12_isJourney 275 = .ok (.iload 5, 2) := by decide +kernel
theorem dX12_isJourney_277 : decode cX12_isJourney 277 = .ok (.iaload, 1) := by decide +kernel
theorem dX12_isJourney_278 : decode cX12_isJourney 278 = .ok (.iastore, 1) := by decide +kernel
theorem dX12_isJourney_279 : decode cX12_isJourney 279 = .ok (.iinc 5 1, 3) := by decide +kernel
theorem dX12_isJourney_282 : decode cX12_isJourney 282 = .ok (.goto (-26), 3) := by decide +kernel
theorem dX12_isJourney_285 : decode cX12_isJourney 285 = .ok (.aload_n 0, 1) := by decide +kernel
theorem dX12_isJourney_286 : decode cX12_isJourney 286 = .ok (.getfield 179, 3) := by decide +kernel
theorem dX12_isJourney_289 : decode cX12_isJourney 289 = .ok (.iload_n 3, 1) := by decide +kernel
theorem dX12_isJourney_290 : decode cX12_isJourney 290 = .ok (.iload 4, 2) := by decide +kernel
theorem dX12_isJourney_292 : decode cX12_isJourney 292 = .ok (.iastore, 1) := by decide +kernel
theorem dX12_isJourney_293 : decode cX12_isJourney 293 = .ok (.iinc 3 1, 3) := by decide +kernel
theorem dX12_isJourney_296 : decode cX12_isJourney 296 = .ok (.goto (-257), 3) := by decide +kernel
theorem dX12_isJourney_299 : decode cX12_isJourney 299 = .ok (.iload_n 2, 1) := by decide +kernel
theorem dX12_isJourney_300 : decode cX12_isJourney 300 = .ok (.ireturn, 1) := by decide +kernel
theorem dX12_called_0 : decode cX12_called 0 = .ok (.aload_n 0, 1) := by decide +kernel
theorem dX12_called_1 : decode cX12_called 1 = .ok (.iconst 0, 1) := by decide +kernel
theorem dX12_called_2 : decode cX12_called 2 = .ok (.putfield 1, 3) := by decide +kernel
theorem dX12_called_5 : decode cX12_called 5 = .ok (.iload_n 1, 1) := by decide +kernel
theorem dX12_called_6 : decode cX12_called 6 = .ok (.iconst 0, 1) := by decide +kernel
theorem dX12_called_7 : decode cX12_called 7 = .ok (.aload_n 0, 1) := by decide +kernel
theorem dX12_called_8 : decode cX12_called 8 = .ok (.getfield 97, 3) := by decide +kernel
theorem dX12_called_11 : decode cX12_called 11 = .ok (.iconst 3, 1) := by decide +kernel
theorem dX12_called_12 : decode cX12_called 12 = .ok (.iaload, 1) := by decide +kernel
theorem dX12_called_13 : decode cX12_called 13 = .ok (.iconst 1, 1) := by decide +kernel
theorem dX12_called_14 : decode cX12_called 14 = .ok (.isub, 1) := by decide +kernel
theorem dX12_called_15 : decode cX12_called 15 = .ok (.invokestatic 308, 3) := by decide +kernel
theorem dX12_called_18 : decode cX12_called 18 = .ok (.ifCond .eq 30, 3) := by decide +kernel
theorem dX12_called_21 : decode cX12_called 21 = .ok (.iload_n 2, 1) := by decide +kernel
theorem dX12_called_22 : decode cX12_called 22 = .ok (.iconst 0, 1) := by decide +kernel
theorem dX12_called_23 : decode cX12_called 23 = .ok (.aload_n 0, 1) := by decide +kernel
theorem dX12_called_24 : decode cX12_called 24 = .ok (.invokevirtual 368, 3) := by decide +kernel
theorem dX12_called_27 : decode cX12_called 27 = .ok (.invokestatic 308, 3) := by decide +kernel
theorem dX12_called_30 : decode cX12_called 30 = .ok (.ifCond .eq 18, 3) := by decide +kernel
theorem dX12_called_33 : decode cX12_called 33 = .ok (.aload_n 0, 1) := by decide +kernel
theorem dX12_called_34 : decode cX12_called 34 = .ok (.invokevirtual 334, 3) := by decide +kernel
theorem dX12_called_37 : decode cX12_called 37 = .ok (.ifCond .eq 11, 3) := by decide +kernel
theorem dX12_called_40 : decode cX12_called 40 = .ok (.aload_n 0, 1) := by decide +kernel
theorem dX12_called_41 : decode cX12_called 41 = .ok (.iload_n 1, 1) := by decide +kernel
theorem dX12_called_42 : decode cX12_called 42 = .ok (.invokevirtual 507, 3) := by decide +kernel
theorem dX12_called_45 : decode cX12_called 45 = .ok (.ifCond .ne 5, 3) := by decide +kernel
theorem dX12_called_48 : decode cX12_called 48 = .ok (.iconst (-1), 1) := by decide +kernel
theorem dX12_called_49 : decode cX12_called 49 = .ok (.ireturn, 1) := by decide +kernel
theorem dX12_called_50 : decode cX12_called 50 = .ok (.iload_n 2, 1) := by decide +kernel
theorem dX12_called_51 : decode cX12_called 51 = .ok (.ifCond .ne 11, 3) := by decide +kernel
theorem dX12_called_54 : decode cX12_called 54 = .ok (.aload_n 0, 1) := by decide +kernel
theorem dX12_called_55 : decode cX12_called 55 = .ok (.iconst 0, 1) := by decide +kernel
theorem dX12_called_56 : decode cX12_called 56 = .ok (.invokevirtual 431, 3) := by decide +kernel
theorem dX12_called_59 : decode cX12_called 59 = .ok (.goto 11, 3) := by decide +kernel
theorem dX12_called_62 : decode cX12_called 62 = .ok (.aload_n 0, 1) := by decide +kernel
theorem dX12_called_63 : decode cX12_called 63 = .ok (.getfield 179, 3) := by decide +kernel
theorem dX12_called_66 : decode cX12_called 66 = .ok (.iload_n 2, 1) := by decide +kernel
theorem dX12_called_67 : decode cX12_called 67 = .ok (.iconst 1, 1) := by decide +kernel
theorem dX12_called_68 : decode cX12_called 68 = .ok (.isub, 1) := by decide +kernel
theorem dX12_called_69 : decode cX12_called 69 = .ok (.iaload, 1) := by decide +kernel
theorem dX12_called_70 : decode cX12_called 70 = .ok (.ireturn, 1) := by decide +kernel
theorem dX12_fairest_0 : decode cX12_fairest 0 = .ok (.aload_n 0, 1) := by decide +kernel
theorem dX12_fairest_1 : decode cX12_fairest 1 = .ok (.iconst 0, 1) := by decide +kernel
theorem dX12_fairest_2 : decode cX12_fairest 2 = .ok (.putfield 1, 3) := by decide +kernel
theorem dX12_fairest_5 : decode cX12_fairest 5 = .ok (.iconst (-1), 1) := by decide +kernel
theorem dX12_fairest_6 : decode cX12_fairest 6 = .ok (.istore_n 1, 1) := by decide +kernel
theorem dX12_fairest_7 : decode cX12_fairest 7 = .ok (.iconst 0, 1) := by decide +kernel
theorem dX12_fairest_8 : decode cX12_fairest 8 = .ok (.istore_n 2, 1) := by decide +kernel
theorem dX12_fairest_9 : decode cX12_fairest 9 = .ok (.iconst 0, 1) := by decide +kernel
theorem dX12_fairest_10 : decode cX12_fairest 10 = .ok (.istore_n 3, 1) := by decide +kernel
theorem dX12_fairest_11 : decode cX12_fairest 11 = .ok (.iload_n 3, 1) := by decide +kernel
theorem dX12_fairest_12 : decode cX12_fairest 12 = .ok (.aload_n 0, 1) := by decide +kernel
theorem dX12_fairest_13 : decode cX12_fairest 13 = .ok (.getfield 97, 3) := by decide +kernel
theorem dX12_fairest_16 : decode cX12_fairest 16 = .ok (.iconst 3, 1) := by decide +kernel
theorem dX12_fairest_17 : decode cX12_fairest 17 = .ok (.iaload, 1) := by decide +kernel
theorem dX12_fairest_18 : decode cX12_fairest 18 = .ok (.if_icmp .ge 46, 3) := by decide +kernel
theorem dX12_fairest_21 : decode cX12_fairest 21 = .ok (.aload_n 0, 1) := by decide +kernel
theorem dX12_fairest_22 : decode cX12_fairest 22 = .ok (.invokevirtual 334, 3) := by decide +kernel
theorem dX12_fairest_25 : decode cX12_fairest 25 = .ok (.ifCond .le 39, 3) := by decide +kernel
theorem dX12_fairest_28 : decode cX12_fairest 28 = .ok (.aload_n 0, 1) := by decide +kernel
theorem dX12_fairest_29 : decode cX12_fairest 29 = .ok (.iload_n 3, 1) := by decide +kernel
theorem dX12_fairest_30 : decode cX12_fairest 30 = .ok (.invokevirtual 507, 3) := by decide +kernel
theorem dX12_fairest_33 : decode cX12_fairest 33 = .ok (.ifCond .eq 25, 3) := by decide +kernel
theorem dX12_fairest_36 : decode cX12_fairest 36 = .ok (.aload_n 0, 1) := by decide +kernel
theorem dX12_fairest_37 : decode cX12_fairest 37 = .ok (.iconst 0, 1) := by decide +kernel
theorem dX12_fairest_38 : decode cX12_fairest 38 = .ok (.invokevirtual 431, 3) := by decide +kernel
theorem dX12_fairest_41 : decode cX12_fairest 41 = .ok (.istore 4, 2) := by decide +kernel
theorem dX12_fairest_43 : decode cX12_fairest 43 = .ok (.iload_n 1, 1) := by decide +kernel
theorem dX12_fairest_44 : decode cX12_fairest 44 = .ok (.ifCond .lt 9, 3) := by decide +kernel
theorem dX12_fairest_47 : decode cX12_fairest 47 = .ok (.iload 4, 2) := by decide +kernel
theorem dX12_fairest_49 : decode cX12_fairest 49 = .ok (.iload_n 2, 1) := by decide +kernel
theorem dX12_fairest_50 : decode cX12_fairest 50 = .ok (.if_icmp .ge 8, 3) := by decide +kernel
theorem dX12_fairest_53 : decode cX12_fairest 53 = .ok (.iload_n 3, 1) := by decide +kernel
theorem dX12_fairest_54 : decode cX12_fairest 54 = .ok (.istore_n 1, 1) := by decide +kernel
theorem dX12_fairest_55 : decode cX12_fairest 55 = .ok (.iload 4, 2) := by decide +kernel
theorem dX12_fairest_57 : decode cX12_fairest 57 = .ok (.istore_n 2, 1) := by decide +kernel
theorem dX12_fairest_58 : decode cX12_fairest 58 = .ok (.iinc 3 1, 3) := by decide +kernel
theorem dX12_fairest_61 : decode cX12_fairest 61 = .ok (.goto (-50), 3) := by decide +kernel
theorem dX12_fairest_64 : decode cX12_fairest 64 = .ok (.iload_n 1, 1) := by decide +kernel
theorem dX12_fairest_65 : decode cX12_fairest 65 = .ok (.ireturn, 1) := by decide +kernel
theorem dX12_see_0 : decode cX12_see 0 = .ok (.aload_n 0, 1) := by decide +kernel
theorem dX12_see_1 : decode cX12_see 1 = .ok (.iconst 0, 1) := by decide +kernel
theorem dX12_see_2 : decode cX12_see 2 = .ok (.putfield 1, 3) := by decide +kernel
theorem dX12_see_5 : decode cX12_see 5 = .ok (.aload_n 0, 1) := by decide +kernel
theorem dX12_see_6 : decode cX12_see 6 = .ok (.iload_n 1, 1) := by decide +kernel
theorem dX12_see_7 : decode cX12_see 7 = .ok (.invokevirtual 387, 3) := by decide +kernel
theorem dX12_see_10 : decode cX12_see 10 = .ok (.ifCond .eq 31, 3) := by decide +kernel
theorem dX12_see_13 : decode cX12_see 13 = .ok (.aload_n 0, 1) := by decide +kernel
theorem dX12_see_14 : decode cX12_see 14 = .ok (.iload_n 2, 1) := by decide +kernel
theorem dX12_see_15 : decode cX12_see 15 = .ok (.invokevirtual 406, 3) := by decide +kernel
theorem dX12_see_18 : decode cX12_see 18 = .ok (.ifCond .eq 23, 3) := by decide +kernel
theorem dX12_see_21 : decode cX12_see 21 = .ok (.aload_n 0, 1) := by decide +kernel
theorem dX12_see_22 : decode cX12_see 22 = .ok (.iload_n 3, 1) := by decide +kernel
theorem dX12_see_23 : decode cX12_see 23 = .ok (.invokevirtual 390, 3) := by decide +kernel
theorem dX12_see_26 : decode cX12_see 26 = .ok (.ifCond .eq 15, 3) := by decide +kernel
theorem dX12_see_29 : decode cX12_see 29 = .ok (.aload_n 0, 1) := by decide +kernel
theorem dX12_see_30 : decode cX12_see 30 = .ok (.getfield 130, 3) := by decide +kernel
theorem dX12_see_33 : decode cX12_see 33 = .ok (.bipush 30, 2) := by decide +kernel
theorem dX12_see_35 : decode cX12_see 35 = .ok (.iaload, 1) := by decide +kernel
theorem dX12_see_36 : decode cX12_see 36 = .ok (.bipush 10, 2) := by decide +kernel
theorem dX12_see_38 : decode cX12_see 38 = .ok (.if_icmp .ne 5, 3) := by decide +kernel
theorem dX12_see_41 : decode cX12_see 41 = .ok (.iconst 0, 1) := by decide +kernel
theorem dX12_see_42 : decode cX12_see 42 = .ok (.ireturn, 1) := by decide +kernel
theorem dX12_see_43 : decode cX12_see 43 = .ok (.bipush 31, 2) := by decide +kernel
theorem dX12_see_45 : decode cX12_see 45 = .ok (.iconst 4, 1) := by decide +kernel
theorem dX12_see_46 : decode cX12_see 46 = .ok (.aload_n 0, 1) := by decide +kernel
theorem dX12_see_47 : decode cX12_see 47 = .ok (.getfield 130, 3) := by decide +kernel
theorem dX12_see_50 : decode cX12_see 50 = .ok (.bipush 30, 2) := by decide +kernel
theorem dX12_see_52 : decode cX12_see 52 = .ok (.iaload, 1) := by decide +kernel
theorem dX12_see_53 : decode cX12_see 53 = .ok (.imul, 1) := by decide +kernel
theorem dX12_see_54 : decode cX12_see 54 = .ok (.iadd, 1) := by decide +kernel
theorem dX12_see_55 : decode cX12_see 55 = .ok (.istore 5, 2) := by decide +kernel
theorem dX12_see_57 : decode cX12_see 57 = .ok (.aload_n 0, 1) := by decide +kernel
theorem dX12_see_58 : decode cX12_see 58 = .ok (.getfield 130, 3) := by decide +kernel
theorem dX12_see_61 : decode cX12_see 61 = .ok (.iload 5, 2) := by decide +kernel
theorem dX12_see_63 : decode cX12_see 63 = .ok (.iload_n 1, 1) := by decide +kernel
theorem dX12_see_64 : decode cX12_see 64 = .ok (.iastore, 1) := by decide +kernel
theorem dX12_see_65 : decode cX12_see 65 = .ok (.aload_n 0, 1) := by decide +kernel
theorem dX12_see_66 : decode cX12_see 66 = .ok (.getfield 130, 3) := by decide +kernel
theorem dX12_see_69 : decode cX12_see 69 = .ok (.iload 5, 2) := by decide +kernel
theorem dX12_see_71 : decode cX12_see 71 = .ok (.iconst 1, 1) := by decide +kernel
theorem dX12_see_72 : decode cX12_see 72 = .ok (.iadd, 1) := by decide +kernel
theorem dX12_see_73 : decode cX12_see 73 = .ok (.iload_n 2, 1) := by decide +kernel
theorem dX12_see_74 : decode cX12_see 74 = .ok (.iastore, 1) := by decide +kernel
theorem dX12_see_75 : decode cX12_see 75 = .ok (.aload_n 0, 1) := by decide +kernel
theorem dX12_see_76 : decode cX12_see 76 = .ok (.getfield 130, 3) := by decide +kernel
theorem dX12_see_79 : decode cX12_see 79 = .ok (.iload 5, 2) := by decide +kernel
theorem dX12_see_81 : decode cX12_see 81 = .ok (.iconst 2, 1) := by decide +kernel
theorem dX12_see_82 : decode cX12_see 82 = .ok (.iadd, 1) := by decide +kernel
theorem dX12_see_83 : decode cX12_see 83 = .ok (.iload_n 3, 1) := by decide +kernel
theorem dX12_see_84 : decode cX12_see 84 = .ok (.iastore, 1) := by decide +kernel
theorem dX12_see_85 : decode cX12_see 85 = .ok (.aload_n 0, 1) := by decide +kernel
theorem dX12_see_86 : decode cX12_see 86 = .ok (.getfield 130, 3) := by decide +kernel
theorem dX12_see_89 : decode cX12_see 89 = .ok (.iload 5, 2) := by decide +kernel
theorem dX12_see_91 : decode cX12_see 91 = .ok (.iconst 3, 1) := by decide +kernel
theorem dX12_see_92 : decode cX12_see 92 = .ok (.iadd, 1) := by decide +kernel
theorem dX12_see_93 : decode cX12_see 93 = .ok (.iload 4, 2) := by decide +kernel
theorem dX12_see_95 : decode cX12_see 95 = .ok (.ifCond .eq 7, 3) := by decide +kernel
theorem dX12_see_98 : decode cX12_see 98 = .ok (.iconst 1, 1) := by decide +kernel
theorem dX12_see_99 : decode cX12_see 99 = .ok (.goto 4, 3) := by decide +kernel
theorem dX12_see_102 : decode cX12_see 102 = .ok (.iconst 0, 1) := by decide +kernel
theorem dX12_see_103 : decode cX12_see 103 = .ok (.iastore, 1) := by decide +kernel
theorem dX12_see_104 : decode cX12_see 104 = .ok (.aload_n 0, 1) := by decide +kernel
theorem dX12_see_105 : decode cX12_see 105 = .ok (.getfield 130, 3) := by decide +kernel
theorem dX12_see_108 : decode cX12_see 108 = .ok (.bipush 30, 2) := by decide +kernel
theorem dX12_see_110 : decode cX12_see 110 = .ok (.dup2, 1) := by decide +kernel
theorem dX12_see_111 : decode cX12_see 111 = .ok (.iaload, 1) := by decide +kernel
theorem dX12_see_112 : decode cX12_see 112 = .ok (.iconst 1, 1) := by decide +kernel
theorem dX12_see_113 : decode cX12_see 113 = .ok (.iadd, 1) := by decide +kernel
theorem dX12_see_114 : decode cX12_see 114 = .ok (.iastore, 1) := by decide +kernel
theorem dX12_see_115 : decode cX12_see 115 = .ok (.iconst 1, 1) := by decide +kernel
theorem dX12_see_116 : decode cX12_see 116 = .ok (.ireturn, 1) := by decide +kernel
theorem dX12_isAsSeen_0 : decode cX12_isAsSeen 0 = .ok (.aload_n 0, 1) := by decide +kernel
theorem dX12_isAsSeen_1 : decode cX12_isAsSeen 1 = .ok (.iload_n 1, 1) := by decide +kernel
theorem dX12_isAsSeen_2 : decode cX12_isAsSeen 2 = .ok (.invokevirtual 393, 3) := by decide +kernel
theorem dX12_isAsSeen_5 : decode cX12_isAsSeen 5 = .ok (.pop, 1) := by decide +kernel
theorem dX12_isAsSeen_6 : decode cX12_isAsSeen 6 = .ok (.iconst 1, 1) := by decide +kernel
theorem dX12_isAsSeen_7 : decode cX12_isAsSeen 7 = .ok (.istore_n 3, 1) := by decide +kernel
theorem dX12_isAsSeen_8 : decode cX12_isAsSeen 8 = .ok (.iconst 0, 1) := by decide +kernel
theorem dX12_isAsSeen_9 : decode cX12_isAsSeen 9 = .ok (.istore 4, 2) := by decide +kernel
theorem dX12_isAsSeen_11 : decode cX12_isAsSeen 11 = .ok (.iload 4, 2) := by decide +kernel
theorem dX12_isAsSeen_13 : decode cX12_isAsSeen 13 = .ok (.aload_n 0, 1) := by decide +kernel
theorem dX12_isAsSeen_14 : decode cX12_isAsSeen 14 = .ok (.getfield 130, 3) := by decide +kernel
theorem dX12_isAsSeen_17 : decode cX12_isAsSeen 17 = .ok (.bipush 30, 2) := by decide +kernel
theorem dX12_isAsSeen_19 : decode cX12_isAsSeen 19 = .ok (.iaload, 1) := by decide +kernel
theorem dX12_isAsSeen_20 : decode cX12_isAsSeen 20 = .ok (.if_icmp .ge 91, 3) := by decide +kernel
theorem dX12_isAsSeen_23 : decode cX12_isAsSeen 23 = .ok (.bipush 31, 2) := by decide +kernel
theorem dX12_isAsSeen_25 : decode cX12_isAsSeen 25 = .ok (.iconst 4, 1) := by decide +kernel
theorem dX12_isAsSeen_26 : decode cX12_isAsSeen 26 = .ok (.iload 4, 2) := by decide +kernel
theorem dX12_isAsSeen_28 : decode cX12_isAsSeen 28 = .ok (.imul, 1) := by decide +kernel
theorem dX12_isAsSeen_29 : decode cX12_isAsSeen 29 = .ok (.iadd, 1) := by decide +kernel
theorem dX12_isAsSeen_30 : decode cX12_isAsSeen 30 = .ok (.istore 5, 2) := by decide +kernel
theorem dX12_isAsSeen_32 : decode cX12_isAsSeen 32 = .ok (.iload_n 3, 1) := by decide +kernel
theorem dX12_isAsSeen_33 : decode cX12_isAsSeen 33 = .ok (.ifCond .eq 70, 3) := by decide +kernel
theorem dX12_isAsSeen_36 : decode cX12_isAsSeen 36 = .ok (.aload_n 0, 1) := by decide +kernel
theorem dX12_isAsSeen_37 : decode cX12_isAsSeen 37 = .ok (.getfield 130, 3) := by decide +kernel
theorem dX12_isAsSeen_40 : decode cX12_isAsSeen 40 = .ok (.iload 5, 2) := by decide +kernel
theorem dX12_isAsSeen_42 : decode cX12_isAsSeen 42 = .ok (.iconst 2, 1) := by decide +kernel
theorem dX12_isAsSeen_43 : decode cX12_isAsSeen 43 = .ok (.iadd, 1) := by decide +kernel
theorem dX12_isAsSeen_44 : decode cX12_isAsSeen 44 = .ok (.iaload, 1) := by decide +kernel
theorem dX12_isAsSeen_45 : decode cX12_isAsSeen 45 = .ok (.iload_n 2, 1) := by decide +kernel
theorem dX12_isAsSeen_46 : decode cX12_isAsSeen 46 = .ok (.if_icmp .ne 53, 3) := by decide +kernel
theorem dX12_isAsSeen_49 : decode cX12_isAsSeen 49 = .ok (.aload_n 0, 1) := by decide +kernel
theorem dX12_isAsSeen_50 : decode cX12_isAsSeen 50 = .ok (.getfield 137, 3) := by decide +kernel
theorem dX12_isAsSeen_53 : decode cX12_isAsSeen 53 = .ok (.aload_n 0, 1) := by decide +kernel
theorem dX12_isAsSeen_54 : decode cX12_isAsSeen 54 = .ok (.getfield 130, 3) := by decide +kernel
theorem dX12_isAsSeen_57 : decode cX12_isAsSeen 57 = .ok (.iload 5, 2) := by decide +kernel
theorem dX12_isAsSeen_59 : decode cX12_isAsSeen 59 = .ok (.iaload, 1) := by decide +kernel
theorem dX12_isAsSeen_60 : decode cX12_isAsSeen 60 = .ok (.iaload, 1) := by decide +kernel
theorem dX12_isAsSeen_61 : decode cX12_isAsSeen 61 = .ok (.aload_n 0, 1) := by decide +kernel
theorem dX12_isAsSeen_62 : decode cX12_isAsSeen 62 = .ok (.getfield 130, 3) := by decide +kernel
theorem dX12_isAsSeen_65 : decode cX12_isAsSeen 65 = .ok (.iload 5, 2) := by decide +kernel
theorem dX12_isAsSeen_67 : decode cX12_isAsSeen 67 = .ok (.iconst 1, 1) := by decide +kernel
theorem dX12_isAsSeen_68 : decode cX12_isAsSeen 68 = .ok (.iadd, 1) := by decide +kernel
theorem dX12_isAsSeen_69 : decode cX12_isAsSeen 69 = .ok (.iaload, 1) := by decide +kernel
theorem dX12_isAsSeen_70 : decode cX12_isAsSeen 70 = .ok (.if_icmp .ne 7, 3) := by decide +kernel
theorem dX12_isAsSeen_73 : decode cX12_isAsSeen 73 = .ok (.iconst 1, 1) := by decide +kernel
theorem dX12_isAsSeen_74 : decode cX12_isAsSeen 74 = .ok (.goto 4, 3) := by decide +kernel
theorem dX12_isAsSeen_77 : decode cX12_isAsSeen 77 = .ok (.iconst 0, 1) := by decide +kernel
theorem dX12_isAsSeen_78 : decode cX12_isAsSeen 78 = .ok (.aload_n 0, 1) := by decide +kernel
theorem dX12_isAsSeen_79 : decode cX12_isAsSeen 79 = .ok (.getfield 130, 3) := by decide +kernel
theorem dX12_isAsSeen_82 : decode cX12_isAsSeen 82 = .ok (.iload 5, 2) := by decide +kernel
theorem dX12_isAsSeen_84 : decode cX12_isAsSeen 84 = .ok (.iconst 3, 1) := by decide +kernel
theorem dX12_isAsSeen_85 : decode cX12_isAsSeen 85 = .ok (.iadd, 1) := by decide +kernel
theorem dX12_isAsSeen_86 : decode cX12_isAsSeen 86 = .ok (.iaload, 1) := by decide +kernel
theorem dX12_isAsSeen_87 : decode cX12_isAsSeen 87 = .ok (.iconst 1, 1) := by decide +kernel
theorem dX12_isAsSeen_88 : decode cX12_isAsSeen 88 = .ok (.if_icmp .ne 7, 3) := by decide +kernel
theorem dX12_isAsSeen_91 : decode cX12_isAsSeen 91 = .ok (.iconst 1, 1) := by decide +kernel
theorem dX12_isAsSeen_92 : decode cX12_isAsSeen 92 = .ok (.goto 4, 3) := by decide +kernel
theorem dX12_isAsSeen_95 : decode cX12_isAsSeen 95 = .ok (.iconst 0, 1) := by decide +kernel
theorem dX12_isAsSeen_96 : decode cX12_isAsSeen 96 = .ok (.if_icmp .ne 7, 3) := by decide +kernel
theorem dX12_isAsSeen_99 : decode cX12_isAsSeen 99 = .ok (.iconst 1, 1) := by decide +kernel
theorem dX12_isAsSeen_100 : decode cX12_isAsSeen 100 = .ok (.goto 4, 3) := by decide +kernel
theorem dX12_isAsSeen_103 : decode cX12_isAsSeen 103 = .ok (.iconst 0, 1) := by decide +kernel
theorem dX12_isAsSeen_104 : decode cX12_isAsSeen 104 = .ok (.istore_n 3, 1) := by decide +kernel
theorem dX12_isAsSeen_105 : decode cX12_isAsSeen 105 = .ok (.iinc 4 1, 3) := by decide +kernel
theorem dX12_isAsSeen_108 : decode cX12_isAsSeen 108 = .ok (.goto (-97), 3) := by decide +kernel
theorem dX12_isAsSeen_111 : decode cX12_isAsSeen 111 = .ok (.iload_n 3, 1) := by decide +kernel
theorem dX12_isAsSeen_112 : decode cX12_isAsSeen 112 = .ok (.ireturn, 1) := by decide +kernel
theorem dX12_goesFitting_0 : decode cX12_goesFitting 0 = .ok (.iload_n 1, 1) := by decide +kernel
theorem dX12_goesFitting_1 : decode cX12_goesFitting 1 = .ok (.aload_n 0, 1) := by decide +kernel
theorem dX12_goesFitting_2 : decode cX12_goesFitting 2 = .ok (.invokevirtual 368, 3) := by decide +kernel
theorem dX12_goesFitting_5 : decode cX12_goesFitting 5 = .ok (.if_icmp .ne 71, 3) := by decide +kernel
theorem dX12_goesFitting_8 : decode cX12_goesFitting 8 = .ok (.aload_n 0, 1) := by decide +kernel
theorem dX12_goesFitting_9 : decode cX12_goesFitting 9 = .ok (.getfield 510, 3) := by decide +kernel
theorem dX12_goesFitting_12 : decode cX12_goesFitting 12 = .ok (.ifCond .ne 33, 3) := by decide +kernel
theorem dX12_goesFitting_15 : decode cX12_goesFitting 15 = .ok (.iconst 0, 1) := by decide +kernel
theorem dX12_goesFitting_16 : decode cX12_goesFitting 16 = .ok (.istore_n 3, 1) := by decide +kernel
theorem dX12_goesFitting_17 : decode cX12_goesFitting 17 = .ok (.iload_n 3, 1) := by decide +kernel
theorem dX12_goesFitting_18 : decode cX12_goesFitting 18 = .ok (.iload_n 1, 1) := by decide +kernel
theorem dX12_goesFitting_19 : decode cX12_goesFitting 19 = .ok (.if_icmp .ge 26, 3) := by decide +kernel
theorem dX12_goesFitting_22 : decode cX12_goesFitting 22 = .ok (.aload_n 0, 1) := by decide +kernel
theorem dX12_goesFitting_23 : decode cX12_goesFitting 23 = .ok (.getfield 161, 3) := by decide +kernel
theorem dX12_goesFitting_26 : decode cX12_goesFitting 26 = .ok (.iload_n 3, 1) := by decide +kernel
theorem dX12_goesFitting_27 : decode cX12_goesFitting 27 = .ok (.aload_n 0, 1) := by decide +kernel
theorem dX12_goesFitting_28 : decode cX12_goesFitting 28 = .ok (.getfield 140, 3) := by decide +kernel
theorem dX12_goesFitting_31 : decode cX12_goesFitting 31 = .ok (.aload_n 0, 1) := by decide +kernel
theorem dX12_goesFitting_32 : decode cX12_goesFitting 32 = .ok (.getfield 149, 3) := by decide +kernel
theorem dX12_goesFitting_35 : decode cX12_goesFitting 35 = .ok (.iload_n 3, 1) := by decide +kernel
theorem dX12_goesFitting_36 : decode cX12_goesFitting 36 = .ok (.iaload, 1) := by decide +kernel
theorem dX12_goesFitting_37 : decode cX12_goesFitting 37 = .ok (.iaload, 1) := by decide +kernel
theorem dX12_goesFitting_38 : decode cX12_goesFitting 38 = .ok (.iastore, 1) := by decide +kernel
theorem dX12_goesFitting_39 : decode cX12_goesFitting 39 = .ok (.iinc 3 1, 3) := by decide +kernel
theorem dX12_goesFitting_42 : decode cX12_goesFitting 42 = .ok (.goto (-25), 3) := by decide +kernel
theorem dX12_goesFitting_45 : decode cX12_goesFitting 45 = .ok (.aload_n 0, 1) := by decide +kernel
theorem dX12_goesFitting_46 : decode cX12_goesFitting 46 = .ok (.dup, 1) := by decide +kernel
theorem dX12_goesFitting_47 : decode cX12_goesFitting 47 = .ok (.getfield 510, 3) := by decide +kernel
theorem dX12_goesFitting_50 : decode cX12_goesFitting 50 = .ok (.iconst 1, 1) := by decide +kernel
theorem dX12_goesFitting_51 : decode cX12_goesFitting 51 = .ok (.iadd, 1) := by decide +kernel
theorem dX12_goesFitting_52 : decode cX12_goesFitting 52 = .ok (.putfield 510, 3) := by decide +kernel
theorem dX12_goesFitting_55 : decode cX12_goesFitting 55 = .ok (.aload_n 0, 1) := by decide +kernel
theorem dX12_goesFitting_56 : decode cX12_goesFitting 56 = .ok (.dup, 1) := by decide +kernel
theorem dX12_goesFitting_57 : decode cX12_goesFitting 57 = .ok (.getfield 513, 3) := by decide +kernel
theorem dX12_goesFitting_60 : decode cX12_goesFitting 60 = .ok (.iload_n 2, 1) := by decide +kernel
theorem dX12_goesFitting_61 : decode cX12_goesFitting 61 = .ok (.iand, 1) := by decide +kernel
theorem dX12_goesFitting_62 : decode cX12_goesFitting 62 = .ok (.putfield 513, 3) := by decide +kernel
theorem dX12_goesFitting_65 : decode cX12_goesFitting 65 = .ok (.aload_n 0, 1) := by decide +kernel
theorem dX12_goesFitting_66 : decode cX12_goesFitting 66 = .ok (.dup, 1) := by decide +kernel
theorem dX12_goesFitting_67 : decode cX12_goesFitting 67 = .ok (.getfield 516, 3) := by decide +kernel
theorem dX12_goesFitting_70 : decode cX12_goesFitting 70 = .ok (.iload_n 2, 1) := by decide +kernel
theorem dX12_goesFitting_71 : decode cX12_goesFitting 71 = .ok (.ior, 1) := by decide +kernel
theorem dX12_goesFitting_72 : decode cX12_goesFitting 72 = .ok (.putfield 516, 3) := by decide +kernel
theorem dX12_goesFitting_75 : decode cX12_goesFitting 75 = .ok (.return_, 1) := by decide +kernel
theorem dX12_goesFitting_76 : decode cX12_goesFitting 76 = .ok (.iconst 0, 1) := by decide +kernel
theorem dX12_goesFitting_77 : decode cX12_goesFitting 77 = .ok (.istore_n 3, 1) := by decide +kernel
theorem dX12_goesFitting_78 : decode cX12_goesFitting 78 = .ok (.iload_n 3, 1) := by decide +kernel
theorem dX12_goesFitting_79 : decode cX12_goesFitting 79 = .ok (.aload_n 0, 1) := by decide +kernel
theorem dX12_goesFitting_80 : decode cX12_goesFitting 80 = .ok (.getfield 422, 3) := by decide +kernel
theorem dX12_goesFitting_83 : decode cX12_goesFitting 83 = .ok (.if_icmp .ge 85, 3) := by decide +kernel
theorem dX12_goesFitting_86 : decode cX12_goesFitting 86 = .ok (.aload_n 0, 1) := by decide +kernel
theorem dX12_goesFitting_87 : decode cX12_goesFitting 87 = .ok (.aload_n 0, 1) := by decide +kernel
theorem dX12_goesFitting_88 : decode cX12_goesFitting 88 = .ok (.getfield 140, 3) := by decide +kernel
theorem dX12_goesFitting_91 : decode cX12_goesFitting 91 = .ok (.iload_n 3, 1) := by decide +kernel
theorem dX12_goesFitting_92 : decode cX12_goesFitting 92 = .ok (.iaload, 1) := by decide +kernel
theorem dX12_goesFitting_93 : decode cX12_goesFitting 93 = .ok (.iload_n 1, 1) := by decide +kernel
theorem dX12_goesFitting_94 : decode cX12_goesFitting 94 = .ok (.invokevirtual 519, 3) := by decide +kernel
theorem dX12_goesFitting_97 : decode cX12_goesFitting 97 = .ok (.ifCond .eq 65, 3) := by decide +kernel
theorem dX12_goesFitting_100 : decode cX12_goesFitting 100 = .ok (.aload_n 0, 1) := by decide +kernel
theorem dX12_goesFitting_101 : decode cX12_goesFitting 101 = .ok (.getfield 149, 3) := by decide +kernel
theorem dX12_goesFitting_104 : decode cX12_goesFitting 104 = .ok (.iload_n 1, 1) := by decide +kernel
theorem dX12_goesFitting_105 : decode cX12_goesFitting 105 = .ok (.iload_n 3, 1) := by decide +kernel
theorem dX12_goesFitting_106 : decode cX12_goesFitting 106 = .ok (.iastore, 1) := by decide +kernel
theorem dX12_goesFitting_107 : decode cX12_goesFitting 107 = .ok (.iload_n 1, 1) := by decide +kernel
theorem dX12_goesFitting_108 : decode cX12_goesFitting 108 = .ok (.ifCond .le 28, 3) := by decide +kernel
theorem dX12_goesFitting_111 : decode cX12_goesFitting 111 = .ok (.aload_n 0, 1) := by decide +kernel
theorem dX12_goesFitting_112 : decode cX12_goesFitting 112 = .ok (.getfield 146, 3) := by decide +kernel
theorem dX12_goesFitting_115 : decode cX12_goesFitting 115 = .ok (.bipush 24, 2) := by decide +kernel
theorem dX12_goesFitting_117 : decode cX12_goesFitting 117 = .ok (.aload_n 0, 1) := by decide +kernel
theorem dX12_goesFitting_118 : decode cX12_goesFitting 118 = .ok (.getfield 149, 3) := by decide +kernel
theorem dX12_goesFitting_121 : decode cX12_goesFitting 121 = .ok (.iload_n 1, 1) := by decide +kernel
theorem dX12_goesFitting_122 : decode cX12_goesFitting 122 = .ok (.iconst 1, 1) := by decide +kernel
theorem dX12_goesFitting_123 : decode cX12_goesFitting 123 = .ok (.isub, 1) := by decide +kernel
theorem dX12_goesFitting_124 : decode cX12_goesFitting 124 = .ok (.iaload, 1) := by decide +kernel
theorem dX12_goesFitting_125 : decode cX12_goesFitting 125 = .ok (.imul, 1) := by decide +kernel
theorem dX12_goesFitting_126 : decode cX12_goesFitting 126 = .ok (.iload_n 3, 1) := by decide +kernel
theorem dX12_goesFitting_127 : decode cX12_goesFitting 127 = .ok (.iadd, 1) := by decide +kernel
theorem dX12_goesFitting_128 : decode cX12_goesFitting 128 = .ok (.iaload, 1) := by decide +kernel
theorem dX12_goesFitting_129 : decode cX12_goesFitting 129 = .ok (.ifCond .eq 7, 3) := by decide +kernel
theorem dX12_goesFitting_132 : decode cX12_goesFitting 132 = .ok (.iconst 1, 1) := by decide +kernel
theorem dX12_goesFitting_133 : decode cX12_goesFitting 133 = .ok (.goto 4, 3) := by decide +kernel
theorem dX12_goesFitting_136 : decode cX12_goesFitting 136 = .ok (.iconst 0, 1) := by decide +kernel
theorem dX12_goesFitting_137 : decode cX12_goesFitting 137 = .ok (.istore 4, 2) := by decide +kernel
theorem dX12_goesFitting_139 : decode cX12_goesFitting 139 = .ok (.aload_n 0, 1) := by decide +kernel
theorem dX12_goesFitting_140 : decode cX12_goesFitting 140 = .ok (.iload_n 1, 1) := by decide +kernel
theorem dX12_goesFitting_141 : decode cX12_goesFitting 141 = .ok (.iconst 1, 1) := by decide +kernel
theorem dX12_goesFitting_142 : decode cX12_goesFitting 142 = .ok (.iadd, 1) := by decide +kernel
theorem dX12_goesFitting_143 : decode cX12_goesFitting 143 = .ok (.iload 4, 2) := by decide +kernel
theorem dX12_goesFitting_145 : decode cX12_goesFitting 145 = .ok (.ifCond .eq 13, 3) := by decide +kernel
theorem dX12_goesFitting_148 : decode cX12_goesFitting 148 = .ok (.iload_n 2, 1) := by decide +kernel
theorem dX12_goesFitting_149 : decode cX12_goesFitting 149 = .ok (.iconst 1, 1) := by decide +kernel
theorem dX12_goesFitting_150 : decode cX12_goesFitting 150 = .ok (.iload_n 1, 1) := by decide +kernel
theorem dX12_goesFitting_151 : decode cX12_goesFitting 151 = .ok (.iconst 1, 1) := by decide +kernel
theorem dX12_goesFitting_152 : decode cX12_goesFitting 152 = .ok (.isub, 1) := by decide +kernel
theorem dX12_goesFitting_153 : decode cX12_goesFitting 153 = .ok (.ishl, 1) := by decide +kernel
theorem dX12_goesFitting_154 : decode cX12_goesFitting 154 = .ok (.ior, 1) := by decide +kernel
theorem dX12_goesFitting_155 : decode cX12_goesFitting 155 = .ok (.goto 4, 3) := by decide +kernel
theorem dX12_goesFitting_158 : decode cX12_goesFitting 158 = .ok (.iload_n 2, 1) := by decide +kernel
theorem dX12_goesFitting_159 : decode cX12_goesFitting 159 = .ok (.invokevirtual 522, 3) := by decide +kernel
theorem dX12_goesFitting_162 : decode cX12_goesFitting 162 = .ok (.iinc 3 1, 3) := by decide +kernel
theorem dX12_goesFitting_165 : decode cX12_goesFitting 165 = .ok (.goto (-87), 3) := by decide +kernel
theorem dX12_goesFitting_168 : decode cX12_goesFitting 168 = .ok (.return_, 1) := by decide +kernel
theorem dX12_fits_0 : decode cX12_fits 0 = .ok (.aload_n 0, 1) := by decide +kernel
theorem dX12_fits_1 : decode cX12_fits 1 = .ok (.iconst 0, 1) := by decide +kernel
theorem dX12_fits_2 : decode cX12_fits 2 = .ok (.putfield 1, 3) := by decide +kernel
theorem dX12_fits_5 : decode cX12_fits 5 = .ok (.iload_n 1, 1) := by decide +kernel
theorem dX12_fits_6 : decode cX12_fits 6 = .ok (.iconst 0, 1) := by decide +kernel
theorem dX12_fits_7 : decode cX12_fits 7 = .ok (.iconst 2, 1) := by decide +kernel
theorem dX12_fits_8 : decode cX12_fits 8 = .ok (.aload_n 0, 1) := by decide +kernel
theorem dX12_fits_9 : decode cX12_fits 9 = .ok (.invokevirtual 368, 3) := by decide +kernel
theorem dX12_fits_12 : decode cX12_fits 12 = .ok (.iadd, 1) := by decide +kernel
theorem dX12_fits_13 : decode cX12_fits 13 = .ok (.invokestatic 308, 3) := by decide +kernel
theorem dX12_fits_16 : decode cX12_fits 16 = .ok (.ifCond .ne 5, 3) := by decide +kernel
theorem dX12_fits_19 : decode cX12_fits 19 = .ok (.iconst (-1), 1) := by decide +kernel
theorem dX12_fits_20 : decode cX12_fits 20 = .ok (.ireturn, 1) := by decide +kernel
theorem dX12_fits_21 : decode cX12_fits 21 = .ok (.aload_n 0, 1) := by decide +kernel
theorem dX12_fits_22 : decode cX12_fits 22 = .ok (.invokevirtual 458, 3) := by decide +kernel
theorem dX12_fits_25 : decode cX12_fits 25 = .ok (.aload_n 0, 1) := by decide +kernel
theorem dX12_fits_26 : decode cX12_fits 26 = .ok (.invokevirtual 368, 3) := by decide +kernel
theorem dX12_fits_29 : decode cX12_fits 29 = .ok (.iconst 1, 1) := by decide +kernel
theorem dX12_fits_30 : decode cX12_fits 30 = .ok (.if_icmp .le 16, 3) := by decide +kernel
theorem dX12_fits_33 : decode cX12_fits 33 = .ok (.iconst 1, 1) := by decide +kernel
theorem dX12_fits_34 : decode cX12_fits 34 = .ok (.aload_n 0, 1) := by decide +kernel
theorem dX12_fits_35 : decode cX12_fits 35 = .ok (.invokevirtual 368, 3) := by decide +kernel
theorem dX12_fits_38 : decode cX12_fits 38 = .ok (.iconst 1, 1) := by decide +kernel
theorem dX12_fits_39 : decode cX12_fits 39 = .ok (.isub, 1) := by decide +kernel
theorem dX12_fits_40 : decode cX12_fits 40 = .ok (.ishl, 1) := by decide +kernel
theorem dX12_fits_41 : decode cX12_fits 41 = .ok (.iconst 1, 1) := by decide +kernel
theorem dX12_fits_42 : decode cX12_fits 42 = .ok (.isub, 1) := by decide +kernel
theorem dX12_fits_43 : decode cX12_fits 43 = .ok (.goto 4, 3) := by decide +kernel
theorem dX12_fits_46 : decode cX12_fits 46 = .ok (.iconst 0, 1) := by decide +kernel
theorem dX12_fits_47 : decode cX12_fits 47 = .ok (.istore_n 2, 1) := by decide +kernel
theorem dX12_fits_48 : decode cX12_fits 48 = .ok (.aload_n 0, 1) := by decide +kernel
theorem dX12_fits_49 : decode cX12_fits 49 = .ok (.iconst 0, 1) := by decide +kernel
theorem dX12_fits_50 : decode cX12_fits 50 = .ok (.putfield 510, 3) := by decide +kernel
theorem dX12_fits_53 : decode cX12_fits 53 = .ok (.aload_n 0, 1) := by decide +kernel
theorem dX12_fits_54 : decode cX12_fits 54 = .ok (.iload_n 2, 1) := by decide +kernel
theorem dX12_fits_55 : decode cX12_fits 55 = .ok (.putfield 513, 3) := by decide +kernel
theorem dX12_fits_58 : decode cX12_fits 58 = .ok (.aload_n 0, 1) := by decide +kernel
theorem dX12_fits_59 : decode cX12_fits 59 = .ok (.iconst 0, 1) := by decide +kernel
theorem dX12_fits_60 : decode cX12_fits 60 = .ok (.putfield 516, 3) := by decide +kernel
theorem dX12_fits_63 : decode cX12_fits 63 = .ok (.aload_n 0, 1) := by decide +kernel
theorem dX12_fits_64 : decode cX12_fits 64 = .ok (.iconst 0, 1) := by decide +kernel
theorem dX12_fits_65 : decode cX12_fits 65 = .ok (.iconst 0, 1) := by decide +kernel
theorem dX12_fits_66 : decode cX12_fits 66 = .ok (.invokevirtual 522, 3) := by decide +kernel
theorem dX12_fits_69 : decode cX12_fits 69 = .ok (.iload_n 1, 1) := by decide +kernel
theorem dX12_fits_70 : decode cX12_fits 70 = .ok (.ifCond .eq 10, 3) := by decide +kernel
theorem dX12_fits_73 : decode cX12_fits 73 = .ok (.aload_n 0, 1) := by decide +kernel
theorem dX12_fits_74 : decode cX12_fits 74 = .ok (.getfield 510, 3) := by decide +kernel
theorem dX12_fits_77 : decode cX12_fits 77 = .ok (.ifCond .ne 16, 3) := by decide +kernel
theorem dX12_fits_80 : decode cX12_fits 80 = .ok (.iload_n 1, 1) := by decide +kernel
theorem dX12_fits_81 : decode cX12_fits 81 = .ok (.ifCond .ne 10, 3) := by decide +kernel
theorem dX12_fits_84 : decode cX12_fits 84 = .ok (.aload_n 0, 1) := by decide +kernel
theorem dX12_fits_85 : decode cX12_fits 85 = .ok (.getfield 510, 3) := by decide +kernel
theorem dX12_fits_88 : decode cX12_fits 88 = .ok (.goto 4, 3) := by decide +kernel
theorem dX12_fits_91 : decode cX12_fits 91 = .ok (.iconst (-1), 1) := by decide +kernel
theorem dX12_fits_92 : decode cX12_fits 92 = .ok (.ireturn, 1) := by decide +kernel
theorem dX12_fits_93 : decode cX12_fits 93 = .ok (.iload_n 1, 1) := by decide +kernel
theorem dX12_fits_94 : decode cX12_fits 94 = .ok (.iconst 1, 1) := by decide +kernel
theorem dX12_fits_95 : decode cX12_fits 95 = .ok (.if_icmp .ne 10, 3) := by decide +kernel
theorem dX12_fits_98 : decode cX12_fits 98 = .ok (.aload_n 0, 1) := by decide +kernel
theorem dX12_fits_99 : decode cX12_fits 99 = .ok (.getfield 513, 3) := by decide +kernel
theorem dX12_fits_102 : decode cX12_fits 102 = .ok (.goto 27, 3) := by decide +kernel
theorem dX12_fits_105 : decode cX12_fits 105 = .ok (.iload_n 1, 1) := by decide +kernel
theorem dX12_fits_106 : decode cX12_fits 106 = .ok (.iconst 2, 1) := by decide +kernel
theorem dX12_fits_107 : decode cX12_fits 107 = .ok (.if_icmp .ne 14, 3) := by decide +kernel
theorem dX12_fits_110 : decode cX12_fits 110 = .ok (.iload_n 2, 1) := by decide +kernel
theorem dX12_fits_111 : decode cX12_fits 111 = .ok (.aload_n 0, 1) := by decide +kernel
theorem dX12_fits_112 : decode cX12_fits 112 = .ok (.getfield 516, 3) := by decide +kernel
theorem dX12_fits_115 : decode cX12_fits 115 = .ok (.iconst (-1), 1) := by decide +kernel
theorem dX12_fits_116 : decode cX12_fits 116 = .ok (.ixor, 1) := by decide +kernel
theorem dX12_fits_117 : decode cX12_fits 117 = .ok (.iand, 1) := by decide +kernel
theorem dX12_fits_118 : decode cX12_fits 118 = .ok (.goto 11, 3) := by decide +kernel
theorem dX12_fits_121 : decode cX12_fits 121 = .ok (.aload_n 0, 1) := by decide +kernel
theorem dX12_fits_122 : decode cX12_fits 122 = .ok (.getfield 161, 3) := by decide +kernel
theorem dX12_fits_125 : decode cX12_fits 125 = .ok (.iload_n 1, 1) := by decide +kernel
theorem dX12_fits_126 : decode cX12_fits 126 = .ok (.iconst 3, 1) := by decide +kernel
theorem dX12_fits_127 : decode cX12_fits 127 = .ok (.isub, 1) := by decide +kernel
theorem dX12_fits_128 : decode cX12_fits 128 = .ok (.iaload, 1) := by decide +kernel
theorem dX12_fits_129 : decode cX12_fits 129 = .ok (.ireturn, 1) := by decide +kernel
theorem dX12_draw_0 : decode cX12_draw 0 = .ok (.aload_n 0, 1) := by decide +kernel
theorem dX12_draw_1 : decode cX12_draw 1 = .ok (.aload_n 0, 1) := by decide +kernel
theorem dX12_draw_2 : decode cX12_draw 2 = .ok (.getfield 525, 3) := by decide +kernel
theorem dX12_draw_5 : decode cX12_draw 5 = .ok (.ldc2_w 528, 3) := by decide +kernel
theorem dX12_draw_8 : decode cX12_draw 8 = .ok (.lmul, 1) := by decide +kernel
theorem dX12_draw_9 : decode cX12_draw 9 = .ok (.ldc2_w 530, 3) := by decide +kernel
theorem dX12_draw_12 : decode cX12_draw 12 = .ok (.ladd, 1) := by decide +kernel
theorem dX12_draw_13 : decode cX12_draw 13 = .ok (.ldc2_w 532, 3) := by decide +kernel
theorem dX12_draw_16 : decode cX12_draw 16 = .ok (.lrem, 1) := by decide +kernel
theorem dX12_draw_17 : decode cX12_draw 17 = .ok (.putfield 525, 3) := by decide +kernel
theorem dX12_draw_20 : decode cX12_draw 20 = .ok (.aload_n 0, 1) := by decide +kernel
theorem dX12_draw_21 : decode cX12_draw 21 = .ok (.getfield 525, 3) := by decide +kernel
theorem dX12_draw_24 : decode cX12_draw 24 = .ok (.ldc2_w 534, 3) := by decide +kernel
theorem dX12_draw_27 : decode cX12_draw 27 = .ok (.ldiv, 1) := by decide +kernel
theorem dX12_draw_28 : decode cX12_draw 28 = .ok (.iload_n 1, 1) := by decide +kernel
theorem dX12_draw_29 : decode cX12_draw 29 = .ok (.i2l, 1) := by decide +kernel
theorem dX12_draw_30 : decode cX12_draw 30 = .ok (.lrem, 1) := by decide +kernel
theorem dX12_draw_31 : decode cX12_draw 31 = .ok (.l2i, 1) := by decide +kernel
theorem dX12_draw_32 : decode cX12_draw 32 = .ok (.ireturn, 1) := by decide +kernel
theorem dX12_comesNow_0 : decode cX12_comesNow 0 = .ok (.aload_n 0, 1) := by decide +kernel
theorem dX12_comesNow_1 : decode cX12_comesNow 1 = .ok (.aload_n 0, 1) := by decide +kernel
theorem dX12_comesNow_2 : decode cX12_comesNow 2 = .ok (.iload_n 1, 1) := by decide +kernel
theorem dX12_comesNow_3 : decode cX12_comesNow 3 = .ok (.invokevirtual 491, 3) := by decide +kernel
theorem dX12_comesNow_6 : decode cX12_comesNow 6 = .ok (.invokevirtual 536, 3) := by decide +kernel
theorem dX12_comesNow_9 : decode cX12_comesNow 9 = .ok (.istore_n 2, 1) := by decide +kernel
theorem dX12_comesNow_10 : decode cX12_comesNow 10 = .ok (.iconst 0, 1) := by decide +kernel
theorem dX12_comesNow_11 : decode cX12_comesNow 11 = .ok (.istore_n 3, 1) := by decide +kernel
theorem dX12_comesNow_12 : decode cX12_comesNow 12 = .ok (.iload_n 3, 1) := by decide +kernel
theorem dX12_comesNow_13 : decode cX12_comesNow 13 = .ok (.aload_n 0, 1) := by decide +kernel
theorem dX12_comesNow_14 : decode cX12_comesNow 14 = .ok (.invokevirtual 334, 3) := by decide +kernel
theorem dX12_comesNow_17 : decode cX12_comesNow 17 = .ok (.if_icmp .ge 43, 3) := by decide +kernel
theorem dX12_comesNow_20 : decode cX12_comesNow 20 = .ok (.iload_n 1, 1) := by decide +kernel
theorem dX12_comesNow_21 : decode cX12_comesNow 21 = .ok (.iload_n 3, 1) := by decide +kernel
theorem dX12_comesNow_22 : decode cX12_comesNow 22 = .ok (.ishr, 1) := by decide +kernel
theorem dX12_comesNow_23 : decode cX12_comesNow 23 = .ok (.iconst 1, 1) := by decide +kernel
theorem dX12_comesNow_24 : decode cX12_comesNow 24 = .ok (.iand, 1) := by decide +kernel
theorem dX12_comesNow_25 : decode cX12_comesNow 25 = .ok (.iconst 1, 1) := by decide +kernel
theorem dX12_comesNow_26 : decode cX12_comesNow 26 = .ok (.if_icmp .ne 12, 3) := by decide +kernel
theorem dX12_comesNow_29 : decode cX12_comesNow 29 = .ok (.aload_n 0, 1) := by decide +kernel
theorem dX12_comesNow_30 : decode cX12_comesNow 30 = .ok (.iload_n 3, 1) := by decide +kernel
theorem dX12_comesNow_31 : decode cX12_comesNow 31 = .ok (.iconst 1, 1) := by decide +kernel
theorem dX12_comesNow_32 : decode cX12_comesNow 32 = .ok (.invokevirtual 355, 3) := by decide +kernel
theorem dX12_comesNow_35 : decode cX12_comesNow 35 = .ok (.goto 4, 3) := by decide +kernel
theorem dX12_comesNow_38 : decode cX12_comesNow 38 = .ok (.iconst 0, 1) := by decide +kernel
theorem dX12_comesNow_39 : decode cX12_comesNow 39 = .ok (.istore 4, 2) := by decide +kernel
theorem dX12_comesNow_41 : decode cX12_comesNow 41 = .ok (.iload_n 2, 1) := by decide +kernel
theorem dX12_comesNow_42 : decode cX12_comesNow 42 = .ok (.iload 4, 2) := by decide +kernel
theorem dX12_comesNow_44 : decode cX12_comesNow 44 = .ok (.if_icmp .ge 5, 3) := by decide +kernel
theorem dX12_comesNow_47 : decode cX12_comesNow 47 = .ok (.iload_n 3, 1) := by decide +kernel
theorem dX12_comesNow_48 : decode cX12_comesNow 48 = .ok (.ireturn, 1) := by decide +kernel
theorem dX12_comesNow_49 : decode cX12_comesNow 49 = .ok (.iload_n 2, 1) := by decide +kernel
theorem dX12_comesNow_50 : decode cX12_comesNow 50 = .ok (.iload 4, 2) := by decide +kernel
theorem dX12_comesNow_52 : decode cX12_comesNow 52 = .ok (.isub, 1) := by decide +kernel
theorem dX12_comesNow_53 : decode cX12_comesNow 53 = .ok (.istore_n 2, 1) := by decide +kernel
theorem dX12_comesNow_54 : decode cX12_comesNow 54 = .ok (.iinc 3 1, 3) := by decide +kernel
theorem dX12_comesNow_57 : decode cX12_comesNow 57 = .ok (.goto (-45), 3) := by decide +kernel
theorem dX12_comesNow_60 : decode cX12_comesNow 60 = .ok (.iconst (-1), 1) := by decide +kernel
theorem dX12_comesNow_61 : decode cX12_comesNow 61 = .ok (.ireturn, 1) := by decide +kernel
theorem dX12_rides_0 : decode cX12_rides 0 = .ok (.iconst 1, 1) := by decide +kernel
theorem dX12_rides_1 : decode cX12_rides 1 = .ok (.aload_n 0, 1) := by decide +kernel
theorem dX12_rides_2 : decode cX12_rides 2 = .ok (.invokevirtual 334, 3) := by decide +kernel
theorem dX12_rides_5 : decode cX12_rides 5 = .ok (.ishl, 1) := by decide +kernel
theorem dX12_rides_6 : decode cX12_rides 6 = .ok (.iconst 1, 1) := by decide +kernel
theorem dX12_rides_7 : decode cX12_rides 7 = .ok (.isub, 1) := by decide +kernel
theorem dX12_rides_8 : decode cX12_rides 8 = .ok (.istore_n 2, 1) := by decide +kernel
theorem dX12_rides_9 : decode cX12_rides 9 = .ok (.iconst 1, 1) := by decide +kernel
theorem dX12_rides_10 : decode cX12_rides 10 = .ok (.aload_n 0, 1) := by decide +kernel
theorem dX12_rides_11 : decode cX12_rides 11 = .ok (.invokevirtual 331, 3) := by decide +kernel
theorem dX12_rides_14 : decode cX12_rides 14 = .ok (.ishl, 1) := by decide +kernel
theorem dX12_rides_15 : decode cX12_rides 15 = .ok (.iconst 1, 1) := by decide +kernel
theorem dX12_rides_16 : decode cX12_rides 16 = .ok (.isub, 1) := by decide +kernel
theorem dX12_rides_17 : decode cX12_rides 17 = .ok (.istore_n 3, 1) := by decide +kernel
theorem dX12_rides_18 : decode cX12_rides 18 = .ok (.iload_n 2, 1) := by decide +kernel
theorem dX12_rides_19 : decode cX12_rides 19 = .ok (.ifCond .eq 78, 3) := by decide +kernel
theorem dX12_rides_22 : decode cX12_rides 22 = .ok (.aload_n 0, 1) := by decide +kernel
theorem dX12_rides_23 : decode cX12_rides 23 = .ok (.iload_n 2, 1) := by decide +kernel
theorem dX12_rides_24 : decode cX12_rides 24 = .ok (.invokevirtual 539, 3) := by decide +kernel
theorem dX12_rides_27 : decode cX12_rides 27 = .ok (.istore 4, 2) := by decide +kernel
theorem dX12_rides_29 : decode cX12_rides 29 = .ok (.aload_n 0, 1) := by decide +kernel
theorem dX12_rides_30 : decode cX12_rides 30 = .ok (.iload 4, 2) := by decide +kernel
theorem dX12_rides_32 : decode cX12_rides 32 = .ok (.iload_n 1, 1) := by decide +kernel
theorem dX12_rides_33 : decode cX12_rides 33 = .ok (.iload_n 3, 1) := by decide +kernel
theorem dX12_rides_34 : decode cX12_rides 34 = .ok (.invokevirtual 488, 3) := by decide +kernel
theorem dX12_rides_37 : decode cX12_rides 37 = .ok (.istore 5, 2) := by decide +kernel
theorem dX12_rides_39 : decode cX12_rides 39 = .ok (.aload_n 0, 1) := by decide +kernel
theorem dX12_rides_40 : decode cX12_rides 40 = .ok (.getfield 137, 3) := by decide +kernel
theorem dX12_rides_43 : decode cX12_rides 43 = .ok (.iload 4, 2) := by decide +kernel
theorem dX12_rides_45 : decode cX12_rides 45 = .ok (.iload 5, 2) := by decide +kernel
theorem dX12_rides_47 : decode cX12_rides 47 = .ok (.iastore, 1) := by decide +kernel
theorem dX12_rides_48 : decode cX12_rides 48 = .ok (.iload_n 3, 1) := by decide +kernel
theorem dX12_rides_49 : decode cX12_rides 49 = .ok (.iload 5, 2) := by decide +kernel
theorem dX12_rides_51 : decode cX12_rides 51 = .ok (.ifCond .ge 7, 3) := by decide +kernel
theorem dX12_rides_54 : decode cX12_rides 54 = .ok (.iload_n 3, 1) := by decide +kernel
theorem dX12_rides_55 : decode cX12_rides 55 = .ok (.goto 9, 3) := by decide +kernel
theorem dX12_rides_58 : decode cX12_rides 58 = .ok (.iconst 1, 1) := by decide +kernel
theorem dX12_rides_59 : decode cX12_rides 59 = .ok (.iload 5, 2) := by decide +kernel
theorem dX12_rides_61 : decode cX12_rides 61 = .ok (.ishl, 1) := by decide +kernel
theorem dX12_rides_62 : decode cX12_rides 62 = .ok (.iconst (-1), 1) := by decide +kernel
theorem dX12_rides_63 : decode cX12_rides 63 = .ok (.ixor, 1) := by decide +kernel
theorem dX12_rides_64 : decode cX12_rides 64 = .ok (.iand, 1) := by decide +kernel
theorem dX12_rides_65 : decode cX12_rides 65 = .ok (.istore_n 3, 1) := by decide +kernel
theorem dX12_rides_66 : decode cX12_rides 66 = .ok (.iload_n 2, 1) := by decide +kernel
theorem dX12_rides_67 : decode cX12_rides 67 = .ok (.iconst 1, 1) := by decide +kernel
theorem dX12_rides_68 : decode cX12_rides 68 = .ok (.iload 4, 2) := by decide +kernel
theorem dX12_rides_70 : decode cX12_rides 70 = .ok (.ishl, 1) := by decide +kernel
theorem dX12_rides_71 : decode cX12_rides 71 = .ok (.iconst (-1), 1) := by decide +kernel
theorem dX12_rides_72 : decode cX12_rides 72 = .ok (.ixor, 1) := by decide +kernel
theorem dX12_rides_73 : decode cX12_rides 73 = .ok (.iand, 1) := by decide +kernel
theorem dX12_rides_74 : decode cX12_rides 74 = .ok (.istore_n 2, 1) := by decide +kernel
theorem dX12_rides_75 : decode cX12_rides 75 = .ok (.aload_n 0, 1) := by decide +kernel
theorem dX12_rides_76 : decode cX12_rides 76 = .ok (.dup, 1) := by decide +kernel
theorem dX12_rides_77 : decode cX12_rides 77 = .ok (.getfield 542, 3) := by decide +kernel
theorem dX12_rides_80 : decode cX12_rides 80 = .ok (.iload 5, 2) := by decide +kernel
theorem dX12_rides_82 : decode cX12_rides 82 = .ok (.ifCond .ge 7, 3) := by decide +kernel
theorem dX12_rides_85 : decode cX12_rides 85 = .ok (.iconst 1, 1) := by decide +kernel
theorem dX12_rides_86 : decode cX12_rides 86 = .ok (.goto 4, 3) := by decide +kernel
theorem dX12_rides_89 : decode cX12_rides 89 = .ok (.iconst 0, 1) := by decide +kernel
theorem dX12_rides_90 : decode cX12_rides 90 = .ok (.iadd, 1) := by decide +kernel
theorem dX12_rides_91 : decode cX12_rides 91 = .ok (.putfield 542, 3) := by decide +kernel
theorem dX12_rides_94 : decode cX12_rides 94 = .ok (.goto (-76), 3) := by decide +kernel
theorem dX12_rides_97 : decode cX12_rides 97 = .ok (.iconst 0, 1) := by decide +kernel
theorem dX12_rides_98 : decode cX12_rides 98 = .ok (.istore 4, 2) := by decide +kernel
theorem dX12_rides_100 : decode cX12_rides 100 = .ok (.iload 4, 2) := by decide +kernel
theorem dX12_rides_102 : decode cX12_rides 102 = .ok (.aload_n 0, 1) := by decide +kernel
theorem dX12_rides_103 : decode cX12_rides 103 = .ok (.invokevirtual 334, 3) := by decide +kernel
theorem dX12_rides_106 : decode cX12_rides 106 = .ok (.if_icmp .ge 53, 3) := by decide +kernel
theorem dX12_rides_109 : decode cX12_rides 109 = .ok (.aload_n 0, 1) := by decide +kernel
theorem dX12_rides_110 : decode cX12_rides 110 = .ok (.getfield 152, 3) := by decide +kernel
theorem dX12_rides_113 : decode cX12_rides 113 = .ok (.iload 4, 2) := by decide +kernel
theorem dX12_rides_115 : decode cX12_rides 115 = .ok (.dup2, 1) := by decide +kernel
theorem dX12_rides_116 : decode cX12_rides 116 = .ok (.iaload, 1) := by decide +kernel
theorem dX12_rides_117 : decode cX12_rides 117 = .ok (.aload_n 0, 1) := by decide +kernel
theorem dX12_rides_118 : decode cX12_rides 118 = .ok (.getfield 137, 3) := by decide +kernel
theorem dX12_rides_121 : decode cX12_rides 121 = .ok (.iload 4, 2) := by decide +kernel
theorem dX12_rides_123 : decode cX12_rides 123 = .ok (.iaload, 1) := by decide +kernel
theorem dX12_rides_124 : decode cX12_rides 124 = .ok (.ifCond .ge 7, 3) := by decide +kernel
theorem dX12_rides_127 : decode cX12_rides 127 = .ok (.iconst 0, 1) := by decide +kernel
theorem dX12_rides_128 : decode cX12_rides 128 = .ok (.goto 23, 3) := by decide +kernel
theorem dX12_rides_131 : decode cX12_rides 131 = .ok (.aload_n 0, 1) := by decide +kernel
theorem dX12_rides_132 : decode cX12_rides 132 = .ok (.iload 4, 2) := by decide +kernel
theorem dX12_rides_134 : decode cX12_rides 134 = .ok (.aload_n 0, 1) := by decide +kernel
theorem dX12_rides_135 : decode cX12_rides 135 = .ok (.getfield 137, 3) := by decide +kernel
theorem dX12_rides_138 : decode cX12_rides 138 = .ok (.iload 4, 2) := by decide +kernel
theorem dX12_rides_140 : decode cX12_rides 140 = .ok (.iaload, 1) := by decide +kernel
theorem dX12_rides_141 : decode cX12_rides 141 = .ok (.iload_n 1, 1) := by decide +kernel
theorem dX12_rides_142 : decode cX12_rides 142 = .ok (.aload_n 0, 1) := by decide +kernel
theorem dX12_rides_143 : decode cX12_rides 143 = .ok (.iload 4, 2) := by decide +kernel
theorem dX12_rides_145 : decode cX12_rides 145 = .ok (.invokevirtual 399, 3) := by decide +kernel
theorem dX12_rides_148 : decode cX12_rides 148 = .ok (.invokevirtual 402, 3) := by decide +kernel
theorem dX12_rides_151 : decode cX12_rides 151 = .ok (.iadd, 1) := by decide +kernel
theorem dX12_rides_152 : decode cX12_rides 152 = .ok (.iastore, 1) := by decide +kernel
theorem dX12_rides_153 : decode cX12_rides 153 = .ok (.iinc 4 1, 3) := by decide +kernel
theorem dX12_rides_156 : decode cX12_rides 156 = .ok (.goto (-56), 3) := by decide +kernel
theorem dX12_rides_159 : decode cX12_rides 159 = .ok (.return_, 1) := by decide +kernel
theorem dX12_years_0 : decode cX12_years 0 = .ok (.aload_n 0, 1) := by decide +kernel
theorem dX12_years_1 : decode cX12_years 1 = .ok (.iconst 0, 1) := by decide +kernel
theorem dX12_years_2 : decode cX12_years 2 = .ok (.putfield 1, 3) := by decide +kernel
theorem dX12_years_5 : decode cX12_years 5 = .ok (.iload_n 1, 1) := by decide +kernel
theorem dX12_years_6 : decode cX12_years 6 = .ok (.iconst 0, 1) := by decide +kernel
theorem dX12_years_7 : decode cX12_years 7 = .ok (.sipush 9999, 3) := by decide +kernel
theorem dX12_years_10 : decode cX12_years 10 = .ok (.invokestatic 308, 3) := by decide +kernel
theorem dX12_years_13 : decode cX12_years 13 = .ok (.ifCond .eq 29, 3) := by decide +kernel
theorem dX12_years_16 : decode cX12_years 16 = .ok (.iload_n 2, 1) := by decide +kernel
theorem dX12_years_17 : decode cX12_years 17 = .ok (.iconst 1, 1) := by decide +kernel
theorem dX12_years_18 : decode cX12_years 18 = .ok (.bipush 60, 2) := by decide +kernel
theorem dX12_years_20 : decode cX12_years 20 = .ok (.invokestatic 308, 3) := by decide +kernel
theorem dX12_years_23 : decode cX12_years 23 = .ok (.ifCond .eq 19, 3) := by decide +kernel
theorem dX12_years_26 : decode cX12_years 26 = .ok (.iload_n 3, 1) := by decide +kernel
theorem dX12_years_27 : decode cX12_years 27 = .ok (.iconst 0, 1) := by decide +kernel
theorem dX12_years_28 : decode cX12_years 28 = .ok (.iconst 1, 1) := by decide +kernel
theorem dX12_years_29 : decode cX12_years 29 = .ok (.invokestatic 308, 3) := by decide +kernel
theorem dX12_years_32 : decode cX12_years 32 = .ok (.ifCond .eq 10, 3) := by decide +kernel
theorem dX12_years_35 : decode cX12_years 35 = .ok (.aload_n 0, 1) := by decide +kernel
theorem dX12_years_36 : decode cX12_years 36 = .ok (.invokevirtual 334, 3) := by decide +kernel
theorem dX12_years_39 : decode cX12_years 39 = .ok (.ifCond .ne 5, 3) := by decide +kernel
theorem dX12_years_42 : decode cX12_years 42 = .ok (.iconst (-1), 1) := by decide +kernel
theorem dX12_years_43 : decode cX12_years 43 = .ok (.ireturn, 1) := by decide +kernel
theorem dX12_years_44 : decode cX12_years 44 = .ok (.aload_n 0, 1) := by decide +kernel
theorem dX12_years_45 : decode cX12_years 45 = .ok (.iload_n 1, 1) := by decide +kernel
theorem dX12_years_46 : decode cX12_years 46 = .ok (.i2l, 1) := by decide +kernel
theorem dX12_years_47 : decode cX12_years 47 = .ok (.putfield 525, 3) := by decide +kernel
theorem dX12_years_50 : decode cX12_years 50 = .ok (.aload_n 0, 1) := by decide +kernel
theorem dX12_years_51 : decode cX12_years 51 = .ok (.iconst 0, 1) := by decide +kernel
theorem dX12_years_52 : decode cX12_years 52 = .ok (.putfield 542, 3) := by decide +kernel
theorem dX12_years_55 : decode cX12_years 55 = .ok (.iconst 0, 1) := by decide +kernel
theorem dX12_years_56 : decode cX12_years 56 = .ok (.istore 4, 2) := by decide +kernel
theorem dX12_years_58 : decode cX12_years 58 = .ok (.iload 4, 2) := by decide +kernel
theorem dX12_years_60 : decode cX12_years 60 = .ok (.aload_n 0, 1) := by decide +kernel
theorem dX12_years_61 : decode cX12_years 61 = .ok (.invokevirtual 334, 3) := by decide +kernel
theorem dX12_years_64 : decode cX12_years 64 = .ok (.if_icmp .ge 23, 3) := by decide +kernel
theorem dX12_years_67 : decode cX12_years 67 = .ok (.aload_n 0, 1) := by decide +kernel
theorem dX12_years_68 : decode cX12_years 68 = .ok (.getfield 152, 3) := by decide +kernel
theorem dX12_years_71 : decode cX12_years 71 = .ok (.iload 4, 2) := by decide +kernel
theorem dX12_years_73 : decode cX12_years 73 = .ok (.aload_n 0, 1) := by decide +kernel
theorem dX12_years_74 : decode cX12_years 74 = .ok (.iload 4, 2) := by decide +kernel
theorem dX12_years_76 : decode cX12_years 76 = .ok (.iconst 2, 1) := by decide +kernel
theorem dX12_years_77 : decode cX12_years 77 = .ok (.invokevirtual 355, 3) := by decide +kernel
theorem dX12_years_80 : decode cX12_years 80 = .ok (.iastore, 1) := by decide +kernel
theorem dX12_years_81 : decode cX12_years 81 = .ok (.iinc 4 1, 3) := by decide +kernel
theorem dX12_years_84 : decode cX12_years 84 = .ok (.goto (-26), 3) := by decide +kernel
theorem dX12_years_87 : decode cX12_years 87 = .ok (.iconst 0, 1) := by decide +kernel
theorem dX12_years_88 : decode cX12_years 88 = .ok (.istore 4, 2) := by decide +kernel
theorem dX12_years_90 : decode cX12_years 90 = .ok (.iload 4, 2) := by decide +kernel
theorem dX12_years_92 : decode cX12_years 92 = .ok (.iload_n 2, 1) := by decide +kernel
theorem dX12_years_93 : decode cX12_years 93 = .ok (.if_icmp .ge 33, 3) := by decide +kernel
theorem dX12_years_96 : decode cX12_years 96 = .ok (.iconst 0, 1) := by decide +kernel
theorem dX12_years_97 : decode cX12_years 97 = .ok (.istore 5, 2) := by decide +kernel
theorem dX12_years_99 : decode cX12_years 99 = .ok (.iload 5, 2) := by decide +kernel
theorem dX12_years_101 : decode cX12_years 101 = .ok (.aload_n 0, 1) := by decide +kernel
theorem dX12_years_102 : decode cX12_years 102 = .ok (.invokevirtual 368, 3) := by decide +kernel
theorem dX12_years_105 : decode cX12_years 105 = .ok (.if_icmp .ge 15, 3) := by decide +kernel
theorem dX12_years_108 : decode cX12_years 108 = .ok (.aload_n 0, 1) := by decide +kernel
theorem dX12_years_109 : decode cX12_years 109 = .ok (.iload 5, 2) := by decide +kernel
theorem dX12_years_111 : decode cX12_years 111 = .ok (.invokevirtual 545, 3) := by decide +kernel
theorem dX12_years_114 : decode cX12_years 114 = .ok (.iinc 5 1, 3) := by decide +kernel
theorem dX12_years_117 : decode cX12_years 117 = .ok (.goto (-18), 3) := by decide +kernel
theorem dX12_years_120 : decode cX12_years 120 = .ok (.iinc 4 1, 3) := by decide +kernel
theorem dX12_years_123 : decode cX12_years 123 = .ok (.goto (-33), 3) := by decide +kernel
theorem dX12_years_126 : decode cX12_years 126 = .ok (.iload_n 3, 1) := by decide +kernel
theorem dX12_years_127 : decode cX12_years 127 = .ok (.ifCond .ne 11, 3) := by decide +kernel
theorem dX12_years_130 : decode cX12_years 130 = .ok (.aload_n 0, 1) := by decide +kernel
theorem dX12_years_131 : decode cX12_years 131 = .ok (.iconst 0, 1) := by decide +kernel
theorem dX12_years_132 : decode cX12_years 132 = .ok (.invokevirtual 431, 3) := by decide +kernel
theorem dX12_years_135 : decode cX12_years 135 = .ok (.goto 7, 3) := by decide +kernel
theorem dX12_years_138 : decode cX12_years 138 = .ok (.aload_n 0, 1) := by decide +kernel
theorem dX12_years_139 : decode cX12_years 139 = .ok (.getfield 542, 3) := by decide +kernel
theorem dX12_years_142 : decode cX12_years 142 = .ok (.ireturn, 1) := by decide +kernel
theorem dX12_mark_0 : decode cX12_mark 0 = .ok (.aload_n 0, 1) := by decide +kernel
theorem dX12_mark_1 : decode cX12_mark 1 = .ok (.iconst 0, 1) := by decide +kernel
theorem dX12_mark_2 : decode cX12_mark 2 = .ok (.putfield 1, 3) := by decide +kernel
theorem dX12_mark_5 : decode cX12_mark 5 = .ok (.iload_n 1, 1) := by decide +kernel
theorem dX12_mark_6 : decode cX12_mark 6 = .ok (.iconst 0, 1) := by decide +kernel
theorem dX12_mark_7 : decode cX12_mark 7 = .ok (.iconst 3, 1) := by decide +kernel
theorem dX12_mark_8 : decode cX12_mark 8 = .ok (.invokestatic 308, 3) := by decide +kernel
theorem dX12_mark_11 : decode cX12_mark 11 = .ok (.ifCond .eq 16, 3) := by decide +kernel
theorem dX12_mark_14 : decode cX12_mark 14 = .ok (.iload_n 2, 1) := by decide +kernel
theorem dX12_mark_15 : decode cX12_mark 15 = .ok (.ifCond .eq 14, 3) := by decide +kernel
theorem dX12_mark_18 : decode cX12_mark 18 = .ok (.aload_n 0, 1) := by decide +kernel
theorem dX12_mark_19 : decode cX12_mark 19 = .ok (.getfield 133, 3) := by decide +kernel
theorem dX12_mark_22 : decode cX12_mark 22 = .ok (.iload_n 1, 1) := by decide +kernel
theorem dX12_mark_23 : decode cX12_mark 23 = .ok (.baload, 1) := by decide +kernel
theorem dX12_mark_24 : decode cX12_mark 24 = .ok (.ifCond .ne 5, 3) := by decide +kernel
theorem dX12_mark_27 : decode cX12_mark 27 = .ok (.iconst 0, 1) := by decide +kernel
theorem dX12_mark_28 : decode cX12_mark 28 = .ok (.ireturn, 1) := by decide +kernel
theorem dX12_mark_29 : decode cX12_mark 29 = .ok (.aload_n 0, 1) := by decide +kernel
theorem dX12_mark_30 : decode cX12_mark 30 = .ok (.getfield 133, 3) := by decide +kernel
theorem dX12_mark_33 : decode cX12_mark 33 = .ok (.iload_n 1, 1) := by decide +kernel
theorem dX12_mark_34 : decode cX12_mark 34 = .ok (.iconst 1, 1) := by decide +kernel
theorem dX12_mark_35 : decode cX12_mark 35 = .ok (.bastore, 1) := by decide +kernel
theorem dX12_mark_36 : decode cX12_mark 36 = .ok (.aload_n 0, 1) := by decide +kernel
theorem dX12_mark_37 : decode cX12_mark 37 = .ok (.iload_n 2, 1) := by decide +kernel
theorem dX12_mark_38 : decode cX12_mark 38 = .ok (.ifCond .eq 12, 3) := by decide +kernel
theorem dX12_mark_41 : decode cX12_mark 41 = .ok (.bipush 80, 2) := by decide +kernel
theorem dX12_mark_43 : decode cX12_mark 43 = .ok (.iconst 1, 1) := by decide +kernel
theorem dX12_mark_44 : decode cX12_mark 44 = .ok (.iload_n 1, 1) := by decide +kernel
theorem dX12_mark_45 : decode cX12_mark 45 = .ok (.iadd, 1) := by decide +kernel
theorem dX12_mark_46 : decode cX12_mark 46 = .ok (.imul, 1) := by decide +kernel
theorem dX12_mark_47 : decode cX12_mark 47 = .ok (.goto 4, 3) := by decide +kernel
theorem dX12_mark_50 : decode cX12_mark 50 = .ok (.iconst 0, 1) := by decide +kernel
theorem dX12_mark_51 : decode cX12_mark 51 = .ok (.iload_n 2, 1) := by decide +kernel
theorem dX12_mark_52 : decode cX12_mark 52 = .ok (.ifCond .eq 7, 3) := by decide +kernel
theorem dX12_mark_55 : decode cX12_mark 55 = .ok (.iconst 0, 1) := by decide +kernel
theorem dX12_mark_56 : decode cX12_mark 56 = .ok (.goto 9, 3) := by decide +kernel
theorem dX12_mark_59 : decode cX12_mark 59 = .ok (.bipush 80, 2) := by decide +kernel
theorem dX12_mark_61 : decode cX12_mark 61 = .ok (.iconst 1, 1) := by decide +kernel
theorem dX12_mark_62 : decode cX12_mark 62 = .ok (.iload_n 1, 1) := by decide +kernel
theorem dX12_mark_63 : decode cX12_mark 63 = .ok (.iadd, 1) := by decide +kernel
theorem dX12_mark_64 : decode cX12_mark 64 = .ok (.imul, 1) := by decide +kernel
theorem dX12_mark_65 : decode cX12_mark 65 = .ok (.bipush 80, 2) := by decide +kernel
theorem dX12_mark_67 : decode cX12_mark 67 = .ok (.invokevirtual 364, 3) := by decide +kernel
theorem dX12_mark_70 : decode cX12_mark 70 = .ok (.aload_n 0, 1) := by decide +kernel
theorem dX12_mark_71 : decode cX12_mark 71 = .ok (.iload_n 2, 1) := by decide +kernel
theorem dX12_mark_72 : decode cX12_mark 72 = .ok (.ifCond .eq 7, 3) := by decide +kernel
theorem dX12_mark_75 : decode cX12_mark 75 = .ok (.iconst 0, 1) := by decide +kernel
theorem dX12_mark_76 : decode cX12_mark 76 = .ok (.goto 7, 3) := by decide +kernel
theorem dX12_mark_79 : decode cX12_mark 79 = .ok (.aload_n 0, 1) := by decide +kernel
theorem dX12_mark_80 : decode cX12_mark 80 = .ok (.getfield 361, 3) := by decide +kernel
theorem dX12_mark_83 : decode cX12_mark 83 = .ok (.putfield 361, 3) := by decide +kernel
theorem dX12_mark_86 : decode cX12_mark 86 = .ok (.iconst 1, 1) := by decide +kernel
theorem dX12_mark_87 : decode cX12_mark 87 = .ok (.ireturn, 1) := by decide +kernel
theorem dX12_count_0 : decode cX12_count 0 = .ok (.aload_n 0, 1) := by decide +kernel
theorem dX12_count_1 : decode cX12_count 1 = .ok (.iconst 0, 1) := by decide +kernel
theorem dX12_count_2 : decode cX12_count 2 = .ok (.putfield 1, 3) := by decide +kernel
theorem dX12_count_5 : decode cX12_count 5 = .ok (.iconst 0, 1) := by decide +kernel
theorem dX12_count_6 : decode cX12_count 6 = .ok (.istore_n 2, 1) := by decide +kernel
theorem dX12_count_7 : decode cX12_count 7 = .ok (.iconst 0, 1) := by decide +kernel
theorem dX12_count_8 : decode cX12_count 8 = .ok (.istore_n 3, 1) := by decide +kernel
theorem dX12_count_9 : decode cX12_count 9 = .ok (.iload_n 3, 1) := by decide +kernel
theorem dX12_count_10 : decode cX12_count 10 = .ok (.aload_n 0, 1) := by decide +kernel
theorem dX12_count_11 : decode cX12_count 11 = .ok (.invokevirtual 334, 3) := by decide +kernel
theorem dX12_count_14 : decode cX12_count 14 = .ok (.if_icmp .ge 28, 3) := by decide +kernel
theorem dX12_count_17 : decode cX12_count 17 = .ok (.iload_n 2, 1) := by decide +kernel
theorem dX12_count_18 : decode cX12_count 18 = .ok (.aload_n 0, 1) := by decide +kernel
theorem dX12_count_19 : decode cX12_count 19 = .ok (.getfield 130, 3) := by decide +kernel
theorem dX12_count_22 : decode cX12_count 22 = .ok (.iconst 1, 1) := by decide +kernel
theorem dX12_count_23 : decode cX12_count 23 = .ok (.iload_n 3, 1) := by decide +kernel
theorem dX12_count_24 : decode cX12_count 24 = .ok (.iadd, 1) := by decide +kernel
theorem dX12_count_25 : decode cX12_count 25 = .ok (.iaload, 1) := by decide +kernel
theorem dX12_count_26 : decode cX12_count 26 = .ok (.ifCond .lt 7, 3) := by decide +kernel
theorem dX12_count_29 : decode cX12_count 29 = .ok (.iconst 1, 1) := by decide +kernel
theorem dX12_count_30 : decode cX12_count 30 = .ok (.goto 4, 3) := by decide +kernel
theorem dX12_count_33 : decode cX12_count 33 = .ok (.iconst 0, 1) := by decide +kernel
theorem dX12_count_34 : decode cX12_count 34 = .ok (.iadd, 1) := by decide +kernel
theorem dX12_count_35 : decode cX12_count 35 = .ok (.istore_n 2, 1) := by decide +kernel
theorem dX12_count_36 : decode cX12_count 36 = .ok (.iinc 3 1, 3) := by decide +kernel
theorem dX12_count_39 : decode cX12_count 39 = .ok (.goto (-30), 3) := by decide +kernel
theorem dX12_count_42 : decode cX12_count 42 = .ok (.iload_n 1, 1) := by decide +kernel
theorem dX12_count_43 : decode cX12_count 43 = .ok (.tableswitch 132 0 11 #[61, 66, 71, 76, 83, 90, 92, 99, 107, 115, 122, 127], 61) := by decide +kernel
theorem dX12_count_104 : decode cX12_count 104 = .ok (.aload_n 0, 1) := by decide +kernel
theorem dX12_count_105 : decode cX12_count 105 = .ok (.invokevirtual 331, 3) := by decide +kernel
theorem dX12_count_108 : decode cX12_count 108 = .ok (.ireturn, 1) := by decide +kernel
theorem dX12_count_109 : decode cX12_count 109 = .ok (.aload_n 0, 1) := by decide +kernel
theorem dX12_count_110 : decode cX12_count 110 = .ok (.invokevirtual 368, 3) := by decide +kernel
theorem dX12_count_113 : decode cX12_count 113 = .ok (.ireturn, 1) := by decide +kernel
theorem dX12_count_114 : decode cX12_count 114 = .ok (.aload_n 0, 1) := by decide +kernel
theorem dX12_count_115 : decode cX12_count 115 = .ok (.invokevirtual 334, 3) := by decide +kernel
theorem dX12_count_118 : decode cX12_count 118 = .ok (.ireturn, 1) := by decide +kernel
theorem dX12_count_119 : decode cX12_count 119 = .ok (.aload_n 0, 1) := by decide +kernel
theorem dX12_count_120 : decode cX12_count 120 = .ok (.getfield 97, 3) := by decide +kernel
theorem dX12_count_123 : decode cX12_count 123 = .ok (.iconst 3, 1) := by decide +kernel
theorem dX12_count_124 : decode cX12_count 124 = .ok (.iaload, 1) := by decide +kernel
theorem dX12_count_125 : decode cX12_count 125 = .ok (.ireturn, 1) := by decide +kernel
theorem dX12_count_126 : decode cX12_count 126 = .ok (.aload_n 0, 1) := by decide +kernel
theorem dX12_count_127 : decode cX12_count 127 = .ok (.getfield 130, 3) := by decide +kernel
theorem dX12_count_130 : decode cX12_count 130 = .ok (.iconst 0, 1) := by decide +kernel
theorem dX12_count_131 : decode cX12_count 131 = .ok (.iaload, 1) := by decide +kernel
theorem dX12_count_132 : decode cX12_count 132 = .ok (.ireturn, 1) := by decide +kernel
theorem dX12_count_133 : decode cX12_count 133 = .ok (.iload_n 2, 1) := by decide +kernel
theorem dX12_count_134 : decode cX12_count 134 = .ok (.ireturn, 1) := by decide +kernel
theorem dX12_count_135 : decode cX12_count 135 = .ok (.aload_n 0, 1) := by decide +kernel
theorem dX12_count_136 : decode cX12_count 136 = .ok (.getfield 118, 3) := by decide +kernel
theorem dX12_count_139 : decode cX12_count 139 = .ok (.iconst 0, 1) := by decide +kernel
theorem dX12_count_140 : decode cX12_count 140 = .ok (.iaload, 1) := by decide +kernel
theorem dX12_count_141 : decode cX12_count 141 = .ok (.ireturn, 1) := by decide +kernel
theorem dX12_count_142 : decode cX12_count 142 = .ok (.aload_n 0, 1) := by decide +kernel
theorem dX12_count_143 : decode cX12_count 143 = .ok (.getfield 130, 3) := by decide +kernel
theorem dX12_count_146 : decode cX12_count 146 = .ok (.bipush 13, 2) := by decide +kernel
theorem dX12_count_148 : decode cX12_count 148 = .ok (.iaload, 1) := by decide +kernel
theorem dX12_count_149 : decode cX12_count 149 = .ok (.ireturn, 1) := by decide +kernel
theorem dX12_count_150 : decode cX12_count 150 = .ok (.aload_n 0, 1) := by decide +kernel
theorem dX12_count_151 : decode cX12_count 151 = .ok (.getfield 130, 3) := by decide +kernel
theorem dX12_count_154 : decode cX12_count 154 = .ok (.bipush 30, 2) := by decide +kernel
theorem dX12_count_156 : decode cX12_count 156 = .ok (.iaload, 1) := by decide +kernel
theorem dX12_count_157 : decode cX12_count 157 = .ok (.ireturn, 1) := by decide +kernel
theorem dX12_count_158 : decode cX12_count 158 = .ok (.aload_n 0, 1) := by decide +kernel
theorem dX12_count_159 : decode cX12_count 159 = .ok (.getfield 97, 3) := by decide +kernel
theorem dX12_count_162 : decode cX12_count 162 = .ok (.iconst 4, 1) := by decide +kernel
theorem dX12_count_163 : decode cX12_count 163 = .ok (.iaload, 1) := by decide +kernel
theorem dX12_count_164 : decode cX12_count 164 = .ok (.ireturn, 1) := by decide +kernel
theorem dX12_count_165 : decode cX12_count 165 = .ok (.aload_n 0, 1) := by decide +kernel
theorem dX12_count_166 : decode cX12_count 166 = .ok (.getfield 361, 3) := by decide +kernel
theorem dX12_count_169 : decode cX12_count 169 = .ok (.ireturn, 1) := by decide +kernel
theorem dX12_count_170 : decode cX12_count 170 = .ok (.aload_n 0, 1) := by decide +kernel
theorem dX12_count_171 : decode cX12_count 171 = .ok (.getfield 11, 3) := by decide +kernel
theorem dX12_count_174 : decode cX12_count 174 = .ok (.ireturn, 1) := by decide +kernel
theorem dX12_count_175 : decode cX12_count 175 = .ok (.iconst (-1), 1) := by decide +kernel
theorem dX12_count_176 : decode cX12_count 176 = .ok (.ireturn, 1) := by decide +kernel
theorem dJ11_isValidCodePoint_9a6ad_0 : decode cJ11_isValidCodePoint_9a6ad 0 = .ok (.iload_n 0, 1) := by decide +kernel
theorem dJ11_isValidCodePoint_9a6ad_1 : decode cJ11_isValidCodePoint_9a6ad 1 = .ok (.bipush 16, 2) := by decide +kernel
theorem dJ11_isValidCodePoint_9a6ad_3 : decode cJ11_isValidCodePoint_9a6ad 3 = .ok (.iushr, 1) := by decide +kernel
theorem dJ11_isValidCodePoint_9a6ad_4 : decode cJ11_isValidCodePoint_9a6ad 4 = .ok (.istore_n 1, 1) := by decide +kernel
theorem dJ11_isValidCodePoint_9a6ad_5 : decode cJ11_isValidCodePoint_9a6ad 5 = .ok (.iload_n 1, 1) := by decide +kernel
theorem dJ11_isValidCodePoint_9a6ad_6 : decode cJ11_isValidCodePoint_9a6ad 6 = .ok (.bipush 17, 2) := by decide +kernel
theorem dJ11_isValidCodePoint_9a6ad_8 : decode cJ11_isValidCodePoint_9a6ad 8 = .ok (.if_icmp .ge 7, 3) := by decide +kernel
theorem dJ11_isValidCodePoint_9a6ad_11 : decode cJ11_isValidCodePoint_9a6ad 11 = .ok (.iconst 1, 1) := by decide +kernel
theorem dJ11_isValidCodePoint_9a6ad_12 : decode cJ11_isValidCodePoint_9a6ad 12 = .ok (.goto 4, 3) := by decide +kernel
theorem dJ11_isValidCodePoint_9a6ad_15 : decode cJ11_isValidCodePoint_9a6ad 15 = .ok (.iconst 0, 1) := by decide +kernel
theorem dJ11_isValidCodePoint_9a6ad_16 : decode cJ11_isValidCodePoint_9a6ad 16 = .ok (.ireturn, 1) := by decide +kernel
theorem dJ11_highSurrogate_5068e_0 : decode cJ11_highSurrogate_5068e 0 = .ok (.iload_n 0, 1) := by decide +kernel
theorem dJ11_highSurrogate_5068e_1 : decode cJ11_highSurrogate_5068e 1 = .ok (.bipush 10, 2) := by decide +kernel
theorem dJ11_highSurrogate_5068e_3 : decode cJ11_highSurrogate_5068e 3 = .ok (.iushr, 1) := by decide +kernel
theorem dJ11_highSurrogate_5068e_4 : decode cJ11_highSurrogate_5068e 4 = .ok (.ldc 110, 2) := by decide +kernel
theorem dJ11_highSurrogate_5068e_6 : decode cJ11_highSurrogate_5068e 6 = .ok (.iadd, 1) := by decide +kernel
theorem dJ11_highSurrogate_5068e_7 : decode cJ11_highSurrogate_5068e 7 = .ok (.i2c, 1) := by decide +kernel
theorem dJ11_highSurrogate_5068e_8 : decode cJ11_highSurrogate_5068e 8 = .ok (.ireturn, 1) := by decide +kernel
theorem dJ11_lowSurrogate_5068e_0 : decode cJ11_lowSurrogate_5068e 0 = .ok (.iload_n 0, 1) := by decide +kernel
theorem dJ11_lowSurrogate_5068e_1 : decode cJ11_lowSurrogate_5068e 1 = .ok (.sipush 1023, 3) := by decide +kernel
theorem dJ11_lowSurrogate_5068e_4 : decode cJ11_lowSurrogate_5068e 4 = .ok (.iand, 1) := by decide +kernel
theorem dJ11_lowSurrogate_5068e_5 : decode cJ11_lowSurrogate_5068e 5 = .ok (.ldc 76, 2) := by decide +kernel
theorem dJ11_lowSurrogate_5068e_7 : decode cJ11_lowSurrogate_5068e 7 = .ok (.iadd, 1) := by decide +kernel
theorem dJ11_lowSurrogate_5068e_8 : decode cJ11_lowSurrogate_5068e 8 = .ok (.i2c, 1) := by decide +kernel
theorem dJ11_lowSurrogate_5068e_9 : decode cJ11_lowSurrogate_5068e 9 = .ok (.ireturn, 1) := by decide +kernel
theorem dJ6_numberOfTrailingZeros_0f7a4_0 : decode cJ6_numberOfTrailingZeros_0f7a4 0 = .ok (.iload_n 0, 1) := by decide +kernel
theorem dJ6_numberOfTrailingZeros_0f7a4_1 : decode cJ6_numberOfTrailingZeros_0f7a4 1 = .ok (.iconst (-1), 1) := by decide +kernel
theorem dJ6_numberOfTrailingZeros_0f7a4_2 : decode cJ6_numberOfTrailingZeros_0f7a4 2 = .ok (.ixor, 1) := by decide +kernel
theorem dJ6_numberOfTrailingZeros_0f7a4_3 : decode cJ6_numberOfTrailingZeros_0f7a4 3 = .ok (.iload_n 0, 1) := by decide +kernel
theorem dJ6_numberOfTrailingZeros_0f7a4_4 : decode cJ6_numberOfTrailingZeros_0f7a4 4 = .ok (.iconst 1, 1) := by decide +kernel
theorem dJ6_numberOfTrailingZeros_0f7a4_5 : decode cJ6_numberOfTrailingZeros_0f7a4 5 = .ok (.isub, 1) := by decide +kernel
theorem dJ6_numberOfTrailingZeros_0f7a4_6 : decode cJ6_numberOfTrailingZeros_0f7a4 6 = .ok (.iand, 1) := by decide +kernel
theorem dJ6_numberOfTrailingZeros_0f7a4_7 : decode cJ6_numberOfTrailingZeros_0f7a4 7 = .ok (.istore_n 0, 1) := by decide +kernel
theorem dJ6_numberOfTrailingZeros_0f7a4_8 : decode cJ6_numberOfTrailingZeros_0f7a4 8 = .ok (.iload_n 0, 1) := by decide +kernel
theorem dJ6_numberOfTrailingZeros_0f7a4_9 : decode cJ6_numberOfTrailingZeros_0f7a4 9 = .ok (.ifCond .gt 8, 3) := by decide +kernel
theorem dJ6_numberOfTrailingZeros_0f7a4_12 : decode cJ6_numberOfTrailingZeros_0f7a4 12 = .ok (.iload_n 0, 1) := by decide +kernel
theorem dJ6_numberOfTrailingZeros_0f7a4_13 : decode cJ6_numberOfTrailingZeros_0f7a4 13 = .ok (.bipush 32, 2) := by decide +kernel
theorem dJ6_numberOfTrailingZeros_0f7a4_15 : decode cJ6_numberOfTrailingZeros_0f7a4 15 = .ok (.iand, 1) := by decide +kernel
theorem dJ6_numberOfTrailingZeros_0f7a4_16 : decode cJ6_numberOfTrailingZeros_0f7a4 16 = .ok (.ireturn, 1) := by decide +kernel
theorem dJ6_numberOfTrailingZeros_0f7a4_17 : decode cJ6_numberOfTrailingZeros_0f7a4 17 = .ok (.iconst 1, 1) := by decide +kernel
theorem dJ6_numberOfTrailingZeros_0f7a4_18 : decode cJ6_numberOfTrailingZeros_0f7a4 18 = .ok (.istore_n 1, 1) := by decide +kernel
theorem dJ6_numberOfTrailingZeros_0f7a4_19 : decode cJ6_numberOfTrailingZeros_0f7a4 19 = .ok (.iload_n 0, 1) := by decide +kernel
theorem dJ6_numberOfTrailingZeros_0f7a4_20 : decode cJ6_numberOfTrailingZeros_0f7a4 20 = .ok (.ldc_w 264, 3) := by decide +kernel
theorem dJ6_numberOfTrailingZeros_0f7a4_23 : decode cJ6_numberOfTrailingZeros_0f7a4 23 = .ok (.if_icmp .le 11, 3) := by decide +kernel
theorem dJ6_numberOfTrailingZeros_0f7a4_26 : decode cJ6_numberOfTrailingZeros_0f7a4 26 = .ok (.iinc 1 16, 3) := by decide +kernel
theorem dJ6_numberOfTrailingZeros_0f7a4_29 : decode cJ6_numberOfTrailingZeros_0f7a4 29 = .ok (.iload_n 0, 1) := by decide +kernel
theorem dJ6_numberOfTrailingZeros_0f7a4_30 : decode cJ6_numberOfTrailingZeros_0f7a4 30 = .ok (.bipush 16, 2) := by decide +kernel
theorem dJ6_numberOfTrailingZeros_0f7a4_32 : decode cJ6_numberOfTrailingZeros_0f7a4 32 = .ok (.iushr, 1) := by decide +kernel
theorem dJ6_numberOfTrailingZeros_0f7a4_33 : decode cJ6_numberOfTrailingZeros_0f7a4 33 = .ok (.istore_n 0, 1) := by decide +kernel
theorem dJ6_numberOfTrailingZeros_0f7a4_34 : decode cJ6_numberOfTrailingZeros_0f7a4 34 = .ok (.iload_n 0, 1) := by decide +kernel
theorem dJ6_numberOfTrailingZeros_0f7a4_35 : decode cJ6_numberOfTrailingZeros_0f7a4 35 = .ok (.sipush 256, 3) := by decide +kernel
theorem dJ6_numberOfTrailingZeros_0f7a4_38 : decode cJ6_numberOfTrailingZeros_0f7a4 38 = .ok (.if_icmp .le 11, 3) := by decide +kernel
theorem dJ6_numberOfTrailingZeros_0f7a4_41 : decode cJ6_numberOfTrailingZeros_0f7a4 41 = .ok (.iinc 1 8, 3) := by decide +kernel
theorem dJ6_numberOfTrailingZeros_0f7a4_44 : decode cJ6_numberOfTrailingZeros_0f7a4 44 = .ok (.iload_n 0, 1) := by decide +kernel
theorem dJ6_numberOfTrailingZeros_0f7a4_45 : decode cJ6_numberOfTrailingZeros_0f7a4 45 = .ok (.bipush 8, 2) := by decide +kernel
theorem dJ6_numberOfTrailingZeros_0f7a4_47 : decode cJ6_numberOfTrailingZeros_0f7a4 47 = .ok (.iushr, 1) := by decide +kernel
theorem dJ6_numberOfTrailingZeros_0f7a4_48 : decode cJ6_numberOfTrailingZeros_0f7a4 48 = .ok (.istore_n 0, 1) := by decide +kernel
theorem dJ6_numberOfTrailingZeros_0f7a4_49 : decode cJ6_numberOfTrailingZeros_0f7a4 49 = .ok (.iload_n 0, 1) := by decide +kernel
theorem dJ6_numberOfTrailingZeros_0f7a4_50 : decode cJ6_numberOfTrailingZeros_0f7a4 50 = .ok (.bipush 16, 2) := by decide +kernel
theorem dJ6_numberOfTrailingZeros_0f7a4_52 : decode cJ6_numberOfTrailingZeros_0f7a4 52 = .ok (.if_icmp .le 10, 3) := by decide +kernel
theorem dJ6_numberOfTrailingZeros_0f7a4_55 : decode cJ6_numberOfTrailingZeros_0f7a4 55 = .ok (.iinc 1 4, 3) := by decide +kernel
theorem dJ6_numberOfTrailingZeros_0f7a4_58 : decode cJ6_numberOfTrailingZeros_0f7a4 58 = .ok (.iload_n 0, 1) := by decide +kernel
theorem dJ6_numberOfTrailingZeros_0f7a4_59 : decode cJ6_numberOfTrailingZeros_0f7a4 59 = .ok (.iconst 4, 1) := by decide +kernel
theorem dJ6_numberOfTrailingZeros_0f7a4_60 : decode cJ6_numberOfTrailingZeros_0f7a4 60 = .ok (.iushr, 1) := by decide +kernel
theorem dJ6_numberOfTrailingZeros_0f7a4_61 : decode cJ6_numberOfTrailingZeros_0f7a4 61 = .ok (.istore_n 0, 1) := by decide +kernel
theorem dJ6_numberOfTrailingZeros_0f7a4_62 : decode cJ6_numberOfTrailingZeros_0f7a4 62 = .ok (.iload_n 0, 1) := by decide +kernel
theorem dJ6_numberOfTrailingZeros_0f7a4_63 : decode cJ6_numberOfTrailingZeros_0f7a4 63 = .ok (.iconst 4, 1) := by decide +kernel
theorem dJ6_numberOfTrailingZeros_0f7a4_64 : decode cJ6_numberOfTrailingZeros_0f7a4 64 = .ok (.if_icmp .le 10, 3) := by decide +kernel
theorem dJ6_numberOfTrailingZeros_0f7a4_67 : decode cJ6_numberOfTrailingZeros_0f7a4 67 = .ok (.iinc 1 2, 3) := by decide +kernel
theorem dJ6_numberOfTrailingZeros_0f7a4_70 : decode cJ6_numberOfTrailingZeros_0f7a4 70 = .ok (.iload_n 0, 1) := by decide +kernel
theorem dJ6_numberOfTrailingZeros_0f7a4_71 : decode cJ6_numberOfTrailingZeros_0f7a4 71 = .ok (.iconst 2, 1) := by decide +kernel
theorem dJ6_numberOfTrailingZeros_0f7a4_72 : decode cJ6_numberOfTrailingZeros_0f7a4 72 = .ok (.iushr, 1) := by decide +kernel
theorem dJ6_numberOfTrailingZeros_0f7a4_73 : decode cJ6_numberOfTrailingZeros_0f7a4 73 = .ok (.istore_n 0, 1) := by decide +kernel
theorem dJ6_numberOfTrailingZeros_0f7a4_74 : decode cJ6_numberOfTrailingZeros_0f7a4 74 = .ok (.iload_n 1, 1) := by decide +kernel
theorem dJ6_numberOfTrailingZeros_0f7a4_75 : decode cJ6_numberOfTrailingZeros_0f7a4 75 = .ok (.iload_n 0, 1) := by decide +kernel
theorem dJ6_numberOfTrailingZeros_0f7a4_76 : decode cJ6_numberOfTrailingZeros_0f7a4 76 = .ok (.iconst 1, 1) := by decide +kernel
theorem dJ6_numberOfTrailingZeros_0f7a4_77 : decode cJ6_numberOfTrailingZeros_0f7a4 77 = .ok (.iushr, 1) := by decide +kernel
theorem dJ6_numberOfTrailingZeros_0f7a4_78 : decode cJ6_numberOfTrailingZeros_0f7a4 78 = .ok (.iadd, 1) := by decide +kernel
theorem dJ6_numberOfTrailingZeros_0f7a4_79 : decode cJ6_numberOfTrailingZeros_0f7a4 79 = .ok (.ireturn, 1) := by decide +kernel
theorem dJ6_bitCount_0f7a4_0 : decode cJ6_bitCount_0f7a4 0 = .ok (.iload_n 0, 1) := by decide +kernel
theorem dJ6_bitCount_0f7a4_1 : decode cJ6_bitCount_0f7a4 1 = .ok (.iload_n 0, 1) := by decide +kernel
theorem dJ6_bitCount_0f7a4_2 : decode cJ6_bitCount_0f7a4 2 = .ok (.iconst 1, 1) := by decide +kernel
theorem dJ6_bitCount_0f7a4_3 : decode cJ6_bitCount_0f7a4 3 = .ok (.iushr, 1) := by decide +kernel
theorem dJ6_bitCount_0f7a4_4 : decode cJ6_bitCount_0f7a4 4 = .ok (.ldc_w 265, 3) := by decide +kernel
theorem dJ6_bitCount_0f7a4_7 : decode cJ6_bitCount_0f7a4 7 = .ok (.iand, 1) := by decide +kernel
theorem dJ6_bitCount_0f7a4_8 : decode cJ6_bitCount_0f7a4 8 = .ok (.isub, 1) := by decide +kernel
theorem dJ6_bitCount_0f7a4_9 : decode cJ6_bitCount_0f7a4 9 = .ok (.istore_n 0, 1) := by decide +kernel
theorem dJ6_bitCount_0f7a4_10 : decode cJ6_bitCount_0f7a4 10 = .ok (.iload_n 0, 1) := by decide +kernel
theorem dJ6_bitCount_0f7a4_11 : decode cJ6_bitCount_0f7a4 11 = .ok (.ldc_w 266, 3) := by decide +kernel
theorem dJ6_bitCount_0f7a4_14 : decode cJ6_bitCount_0f7a4 14 = .ok (.iand, 1) := by decide +kernel
theorem dJ6_bitCount_0f7a4_15 : decode cJ6_bitCount_0f7a4 15 = .ok (.iload_n 0, 1) := by decide +kernel
theorem dJ6_bitCount_0f7a4_16 : decode cJ6_bitCount_0f7a4 16 = .ok (.iconst 2, 1) := by decide +kernel
theorem dJ6_bitCount_0f7a4_17 : decode cJ6_bitCount_0f7a4 17 = .ok (.iushr, 1) := by decide +kernel
theorem dJ6_bitCount_0f7a4_18 : decode cJ6_bitCount_0f7a4 18 = .ok (.ldc_w 266, 3) := by decide +kernel
theorem dJ6_bitCount_0f7a4_21 : decode cJ6_bitCount_0f7a4 21 = .ok (.iand, 1) := by decide +kernel
theorem dJ6_bitCount_0f7a4_22 : decode cJ6_bitCount_0f7a4 22 = .ok (.iadd, 1) := by decide +kernel
theorem dJ6_bitCount_0f7a4_23 : decode cJ6_bitCount_0f7a4 23 = .ok (.istore_n 0, 1) := by decide +kernel
theorem dJ6_bitCount_0f7a4_24 : decode cJ6_bitCount_0f7a4 24 = .ok (.iload_n 0, 1) := by decide +kernel
theorem dJ6_bitCount_0f7a4_25 : decode cJ6_bitCount_0f7a4 25 = .ok (.iload_n 0, 1) := by decide +kernel
theorem dJ6_bitCount_0f7a4_26 : decode cJ6_bitCount_0f7a4 26 = .ok (.iconst 4, 1) := by decide +kernel
theorem dJ6_bitCount_0f7a4_27 : decode cJ6_bitCount_0f7a4 27 = .ok (.iushr, 1) := by decide +kernel
theorem dJ6_bitCount_0f7a4_28 : decode cJ6_bitCount_0f7a4 28 = .ok (.iadd, 1) := by decide +kernel
theorem dJ6_bitCount_0f7a4_29 : decode cJ6_bitCount_0f7a4 29 = .ok (.ldc_w 267, 3) := by decide +kernel
theorem dJ6_bitCount_0f7a4_32 : decode cJ6_bitCount_0f7a4 32 = .ok (.iand, 1) := by decide +kernel
theorem dJ6_bitCount_0f7a4_33 : decode cJ6_bitCount_0f7a4 33 = .ok (.istore_n 0, 1) := by decide +kernel
theorem dJ6_bitCount_0f7a4_34 : decode cJ6_bitCount_0f7a4 34 = .ok (.iload_n 0, 1) := by decide +kernel
theorem dJ6_bitCount_0f7a4_35 : decode cJ6_bitCount_0f7a4 35 = .ok (.iload_n 0, 1) := by decide +kernel
theorem dJ6_bitCount_0f7a4_36 : decode cJ6_bitCount_0f7a4 36 = .ok (.bipush 8, 2) := by decide +kernel
theorem dJ6_bitCount_0f7a4_38 : decode cJ6_bitCount_0f7a4 38 = .ok (.iushr, 1) := by decide +kernel
theorem dJ6_bitCount_0f7a4_39 : decode cJ6_bitCount_0f7a4 39 = .ok (.iadd, 1) := by decide +kernel
theorem dJ6_bitCount_0f7a4_40 : decode cJ6_bitCount_0f7a4 40 = .ok (.istore_n 0, 1) := by decide +kernel
theorem dJ6_bitCount_0f7a4_41 : decode cJ6_bitCount_0f7a4 41 = .ok (.iload_n 0, 1) := by decide +kernel
theorem dJ6_bitCount_0f7a4_42 : decode cJ6_bitCount_0f7a4 42 = .ok (.iload_n 0, 1) := by decide +kernel
theorem dJ6_bitCount_0f7a4_43 : decode cJ6_bitCount_0f7a4 43 = .ok (.bipush 16, 2) := by decide +kernel
theorem dJ6_bitCount_0f7a4_45 : decode cJ6_bitCount_0f7a4 45 = .ok (.iushr, 1) := by decide +kernel
theorem dJ6_bitCount_0f7a4_46 : decode cJ6_bitCount_0f7a4 46 = .ok (.iadd, 1) := by decide +kernel
theorem dJ6_bitCount_0f7a4_47 : decode cJ6_bitCount_0f7a4 47 = .ok (.istore_n 0, 1) := by decide +kernel
theorem dJ6_bitCount_0f7a4_48 : decode cJ6_bitCount_0f7a4 48 = .ok (.iload_n 0, 1) := by decide +kernel
theorem dJ6_bitCount_0f7a4_49 : decode cJ6_bitCount_0f7a4 49 = .ok (.bipush 63, 2) := by decide +kernel
theorem dJ6_bitCount_0f7a4_51 : decode cJ6_bitCount_0f7a4 51 = .ok (.iand, 1) := by decide +kernel
theorem dJ6_bitCount_0f7a4_52 : decode cJ6_bitCount_0f7a4 52 = .ok (.ireturn, 1) := by decide +kernel
theorem dJ9_floorMod_7cf53_0 : decode cJ9_floorMod_7cf53 0 = .ok (.iload_n 0, 1) := by decide +kernel
theorem dJ9_floorMod_7cf53_1 : decode cJ9_floorMod_7cf53 1 = .ok (.iload_n 1, 1) := by decide +kernel
theorem dJ9_floorMod_7cf53_2 : decode cJ9_floorMod_7cf53 2 = .ok (.irem, 1) := by decide +kernel
theorem dJ9_floorMod_7cf53_3 : decode cJ9_floorMod_7cf53 3 = .ok (.istore_n 2, 1) := by decide +kernel
theorem dJ9_floorMod_7cf53_4 : decode cJ9_floorMod_7cf53 4 = .ok (.iload_n 0, 1) := by decide +kernel
theorem dJ9_floorMod_7cf53_5 : decode cJ9_floorMod_7cf53 5 = .ok (.iload_n 1, 1) := by decide +kernel
theorem dJ9_floorMod_7cf53_6 : decode cJ9_floorMod_7cf53 6 = .ok (.ixor, 1) := by decide +kernel
theorem dJ9_floorMod_7cf53_7 : decode cJ9_floorMod_7cf53 7 = .ok (.ifCond .ge 11, 3) := by decide +kernel
theorem dJ9_floorMod_7cf53_10 : decode cJ9_floorMod_7cf53 10 = .ok (.iload_n 2, 1) := by decide +kernel
theorem dJ9_floorMod_7cf53_11 : decode cJ9_floorMod_7cf53 11 = .ok (.ifCond .eq 7, 3) := by decide +kernel
theorem dJ9_floorMod_7cf53_14 : decode cJ9_floorMod_7cf53 14 = .ok (.iload_n 2, 1) := by decide +kernel
theorem dJ9_floorMod_7cf53_15 : decode cJ9_floorMod_7cf53 15 = .ok (.iload_n 1, 1) := by decide +kernel
theorem dJ9_floorMod_7cf53_16 : decode cJ9_floorMod_7cf53 16 = .ok (.iadd, 1) := by decide +kernel
theorem dJ9_floorMod_7cf53_17 : decode cJ9_floorMod_7cf53 17 = .ok (.ireturn, 1) := by decide +kernel
theorem dJ9_floorMod_7cf53_18 : decode cJ9_floorMod_7cf53 18 = .ok (.iload_n 2, 1) := by decide +kernel
theorem dJ9_floorMod_7cf53_19 : decode cJ9_floorMod_7cf53 19 = .ok (.ireturn, 1) := by decide +kernel
theorem dJ9_max_7cf53_0 : decode cJ9_max_7cf53 0 = .ok (.iload_n 0, 1) := by decide +kernel
theorem dJ9_max_7cf53_1 : decode cJ9_max_7cf53 1 = .ok (.iload_n 1, 1) := by decide +kernel
theorem dJ9_max_7cf53_2 : decode cJ9_max_7cf53 2 = .ok (.if_icmp .lt 7, 3) := by decide +kernel
theorem dJ9_max_7cf53_5 : decode cJ9_max_7cf53 5 = .ok (.iload_n 0, 1) := by decide +kernel
theorem dJ9_max_7cf53_6 : decode cJ9_max_7cf53 6 = .ok (.goto 4, 3) := by decide +kernel
theorem dJ9_max_7cf53_9 : decode cJ9_max_7cf53 9 = .ok (.iload_n 1, 1) := by decide +kernel
theorem dJ9_max_7cf53_10 : decode cJ9_max_7cf53 10 = .ok (.ireturn, 1) := by decide +kernel
theorem dJ9_min_7cf53_0 : decode cJ9_min_7cf53 0 = .ok (.iload_n 0, 1) := by decide +kernel
theorem dJ9_min_7cf53_1 : decode cJ9_min_7cf53 1 = .ok (.iload_n 1, 1) := by decide +kernel
theorem dJ9_min_7cf53_2 : decode cJ9_min_7cf53 2 = .ok (.if_icmp .gt 7, 3) := by decide +kernel
theorem dJ9_min_7cf53_5 : decode cJ9_min_7cf53 5 = .ok (.iload_n 0, 1) := by decide +kernel
theorem dJ9_min_7cf53_6 : decode cJ9_min_7cf53 6 = .ok (.goto 4, 3) := by decide +kernel
theorem dJ9_min_7cf53_9 : decode cJ9_min_7cf53 9 = .ok (.iload_n 1, 1) := by decide +kernel
theorem dJ9_min_7cf53_10 : decode cJ9_min_7cf53 10 = .ok (.ireturn, 1) := by decide +kernel
theorem dJ0_length_8abf5_0 : decode cJ0_length_8abf5 0 = .ok (.aload_n 0, 1) := by decide +kernel
theorem dJ0_length_8abf5_1 : decode cJ0_length_8abf5 1 = .ok (.getfield 9, 3) := by decide +kernel
theorem dJ0_length_8abf5_4 : decode cJ0_length_8abf5 4 = .ok (.arraylength, 1) := by decide +kernel
theorem dJ0_length_8abf5_5 : decode cJ0_length_8abf5 5 = .ok (.aload_n 0, 1) := by decide +kernel
theorem dJ0_length_8abf5_6 : decode cJ0_length_8abf5 6 = .ok (.invokevirtual 335, 3) := by decide +kernel
theorem dJ0_length_8abf5_9 : decode cJ0_length_8abf5 9 = .ok (.ishr, 1) := by decide +kernel
theorem dJ0_length_8abf5_10 : decode cJ0_length_8abf5 10 = .ok (.ireturn, 1) := by decide +kernel
theorem dJ0_charAt_5068e_0 : decode cJ0_charAt_5068e 0 = .ok (.aload_n 0, 1) := by decide +kernel
theorem dJ0_charAt_5068e_1 : decode cJ0_charAt_5068e 1 = .ok (.invokevirtual 492, 3) := by decide +kernel
theorem dJ0_charAt_5068e_4 : decode cJ0_charAt_5068e 4 = .ok (.ifCond .eq 12, 3) := by decide +kernel
theorem dJ0_charAt_5068e_7 : decode cJ0_charAt_5068e 7 = .ok (.aload_n 0, 1) := by decide +kernel
theorem dJ0_charAt_5068e_8 : decode cJ0_charAt_5068e 8 = .ok (.getfield 9, 3) := by decide +kernel
theorem dJ0_charAt_5068e_11 : decode cJ0_charAt_5068e 11 = .ok (.iload_n 1, 1) := by decide +kernel
theorem dJ0_charAt_5068e_12 : decode cJ0_charAt_5068e 12 = .ok (.invokestatic 495, 3) := by decide +kernel
theorem dJ0_charAt_5068e_15 : decode cJ0_charAt_5068e 15 = .ok (.ireturn, 1) := by decide +kernel
theorem dJ0_charAt_5068e_16 : decode cJ0_charAt_5068e 16 = .ok (.aload_n 0, 1) := by decide +kernel
theorem dJ0_charAt_5068e_17 : decode cJ0_charAt_5068e 17 = .ok (.getfield 9, 3) := by decide +kernel
theorem dJ0_charAt_5068e_20 : decode cJ0_charAt_5068e 20 = .ok (.iload_n 1, 1) := by decide +kernel
theorem dJ0_charAt_5068e_21 : decode cJ0_charAt_5068e 21 = .ok (.invokestatic 498, 3) := by decide +kernel
theorem dJ0_charAt_5068e_24 : decode cJ0_charAt_5068e 24 = .ok (.ireturn, 1) := by decide +kernel
theorem dJ0_indexOf_0f7a4_0 : decode cJ0_indexOf_0f7a4 0 = .ok (.aload_n 0, 1) := by decide +kernel
theorem dJ0_indexOf_0f7a4_1 : decode cJ0_indexOf_0f7a4 1 = .ok (.iload_n 1, 1) := by decide +kernel
theorem dJ0_indexOf_0f7a4_2 : decode cJ0_indexOf_0f7a4 2 = .ok (.iconst 0, 1) := by decide +kernel
theorem dJ0_indexOf_0f7a4_3 : decode cJ0_indexOf_0f7a4 3 = .ok (.invokevirtual 633, 3) := by decide +kernel
theorem dJ0_indexOf_0f7a4_6 : decode cJ0_indexOf_0f7a4 6 = .ok (.ireturn, 1) := by decide +kernel
theorem dJ0_indexOf_7cf53_0 : decode cJ0_indexOf_7cf53 0 = .ok (.aload_n 0, 1) := by decide +kernel
theorem dJ0_indexOf_7cf53_1 : decode cJ0_indexOf_7cf53 1 = .ok (.invokevirtual 492, 3) := by decide +kernel
theorem dJ0_indexOf_7cf53_4 : decode cJ0_indexOf_7cf53 4 = .ok (.ifCond .eq 19, 3) := by decide +kernel
theorem dJ0_indexOf_7cf53_7 : decode cJ0_indexOf_7cf53 7 = .ok (.aload_n 0, 1) := by decide +kernel
theorem dJ0_indexOf_7cf53_8 : decode cJ0_indexOf_7cf53 8 = .ok (.getfield 9, 3) := by decide +kernel
theorem dJ0_indexOf_7cf53_11 : decode cJ0_indexOf_7cf53 11 = .ok (.iload_n 1, 1) := by decide +kernel
theorem dJ0_indexOf_7cf53_12 : decode cJ0_indexOf_7cf53 12 = .ok (.iload_n 2, 1) := by decide +kernel
theorem dJ0_indexOf_7cf53_13 : decode cJ0_indexOf_7cf53 13 = .ok (.aload_n 0, 1) := by decide +kernel
theorem dJ0_indexOf_7cf53_14 : decode cJ0_indexOf_7cf53 14 = .ok (.invokevirtual 505, 3) := by decide +kernel
theorem dJ0_indexOf_7cf53_17 : decode cJ0_indexOf_7cf53 17 = .ok (.invokestatic 637, 3) := by decide +kernel
theorem dJ0_indexOf_7cf53_20 : decode cJ0_indexOf_7cf53 20 = .ok (.goto 16, 3) := by decide +kernel
theorem dJ0_indexOf_7cf53_23 : decode cJ0_indexOf_7cf53 23 = .ok (.aload_n 0, 1) := by decide +kernel
theorem dJ0_indexOf_7cf53_24 : decode cJ0_indexOf_7cf53 24 = .ok (.getfield 9, 3) := by decide +kernel
theorem dJ0_indexOf_7cf53_27 : decode cJ0_indexOf_7cf53 27 = .ok (.iload_n 1, 1) := by decide +kernel
theorem dJ0_indexOf_7cf53_28 : decode cJ0_indexOf_7cf53 28 = .ok (.iload_n 2, 1) := by decide +kernel
theorem dJ0_indexOf_7cf53_29 : decode cJ0_indexOf_7cf53 29 = .ok (.aload_n 0, 1) := by decide +kernel
theorem dJ0_indexOf_7cf53_30 : decode cJ0_indexOf_7cf53 30 = .ok (.invokevirtual 505, 3) := by decide +kernel
theorem dJ0_indexOf_7cf53_33 : decode cJ0_indexOf_7cf53 33 = .ok (.invokestatic 640, 3) := by decide +kernel
theorem dJ0_indexOf_7cf53_36 : decode cJ0_indexOf_7cf53 36 = .ok (.ireturn, 1) := by decide +kernel
theorem dJ0_coder_7d493_0 : decode cJ0_coder_7d493 0 = .ok (.getstatic 38, 3) := by decide +kernel
theorem dJ0_coder_7d493_3 : decode cJ0_coder_7d493 3 = .ok (.ifCond .eq 10, 3) := by decide +kernel
theorem dJ0_coder_7d493_6 : decode cJ0_coder_7d493 6 = .ok (.aload_n 0, 1) := by decide +kernel
theorem dJ0_coder_7d493_7 : decode cJ0_coder_7d493 7 = .ok (.getfield 15, 3) := by decide +kernel
theorem dJ0_coder_7d493_10 : decode cJ0_coder_7d493 10 = .ok (.goto 4, 3) := by decide +kernel
theorem dJ0_coder_7d493_13 : decode cJ0_coder_7d493 13 = .ok (.iconst 1, 1) := by decide +kernel
theorem dJ0_coder_7d493_14 : decode cJ0_coder_7d493 14 = .ok (.ireturn, 1) := by decide +kernel
theorem dJ0_isLatin1_aae02_0 : decode cJ0_isLatin1_aae02 0 = .ok (.getstatic 38, 3) := by decide +kernel
theorem dJ0_isLatin1_aae02_3 : decode cJ0_isLatin1_aae02 3 = .ok (.ifCond .eq 14, 3) := by decide +kernel
theorem dJ0_isLatin1_aae02_6 : decode cJ0_isLatin1_aae02 6 = .ok (.aload_n 0, 1) := by decide +kernel
theorem dJ0_isLatin1_aae02_7 : decode cJ0_isLatin1_aae02 7 = .ok (.getfield 15, 3) := by decide +kernel
theorem dJ0_isLatin1_aae02_10 : decode cJ0_isLatin1_aae02 10 = .ok (.ifCond .ne 7, 3) := by decide +kernel
theorem dJ0_isLatin1_aae02_13 : decode cJ0_isLatin1_aae02 13 = .ok (.iconst 1, 1) := by decide +kernel
theorem dJ0_isLatin1_aae02_14 : decode cJ0_isLatin1_aae02 14 = .ok (.goto 4, 3) := by decide +kernel
theorem dJ0_isLatin1_aae02_17 : decode cJ0_isLatin1_aae02 17 = .ok (.iconst 0, 1) := by decide +kernel
theorem dJ0_isLatin1_aae02_18 : decode cJ0_isLatin1_aae02 18 = .ok (.ireturn, 1) := by decide +kernel
theorem dJ0_checkIndex_df160_0 : decode cJ0_checkIndex_df160 0 = .ok (.iload_n 0, 1) := by decide +kernel
theorem dJ0_checkIndex_df160_1 : decode cJ0_checkIndex_df160 1 = .ok (.iload_n 1, 1) := by decide +kernel
theorem dJ0_checkIndex_df160_2 : decode cJ0_checkIndex_df160 2 = .ok (.getstatic 1053, 3) := by decide +kernel
theorem dJ0_checkIndex_df160_5 : decode cJ0_checkIndex_df160 5 = .ok (.invokestatic 1059, 3) := by decide +kernel
theorem dJ0_checkIndex_df160_8 : decode cJ0_checkIndex_df160 8 = .ok (.pop, 1) := by decide +kernel
theorem dJ0_checkIndex_df160_9 : decode cJ0_checkIndex_df160 9 = .ok (.return_, 1) := by decide +kernel
theorem dJ0_checkBoundsBeginEnd_23922_0 : decode cJ0_checkBoundsBeginEnd_23922 0 = .ok (.iload_n 0, 1) := by decide +kernel
theorem dJ0_checkBoundsBeginEnd_23922_1 : decode cJ0_checkBoundsBeginEnd_23922 1 = .ok (.iload_n 1, 1) := by decide +kernel
theorem dJ0_checkBoundsBeginEnd_23922_2 : decode cJ0_checkBoundsBeginEnd_23922 2 = .ok (.iload_n 2, 1) := by decide +kernel
theorem dJ0_checkBoundsBeginEnd_23922_3 : decode cJ0_checkBoundsBeginEnd_23922 3 = .ok (.getstatic 1053, 3) := by decide +kernel
theorem dJ0_checkBoundsBeginEnd_23922_6 : decode cJ0_checkBoundsBeginEnd_23922 6 = .ok (.invokestatic 1062, 3) := by decide +kernel
theorem dJ0_checkBoundsBeginEnd_23922_9 : decode cJ0_checkBoundsBeginEnd_23922 9 = .ok (.pop, 1) := by decide +kernel
theorem dJ0_checkBoundsBeginEnd_23922_10 : decode cJ0_checkBoundsBeginEnd_23922 10 = .ok (.return_, 1) := by decide +kernel
theorem dJ1_charAt_3b067_0 : decode cJ1_charAt_3b067 0 = .ok (.iload_n 1, 1) := by decide +kernel
theorem dJ1_charAt_3b067_1 : decode cJ1_charAt_3b067 1 = .ok (.aload_n 0, 1) := by decide +kernel
theorem dJ1_charAt_3b067_2 : decode cJ1_charAt_3b067 2 = .ok (.arraylength, 1) := by decide +kernel
theorem dJ1_charAt_3b067_3 : decode cJ1_charAt_3b067 3 = .ok (.invokestatic 9, 3) := by decide +kernel
theorem dJ1_charAt_3b067_6 : decode cJ1_charAt_3b067 6 = .ok (.aload_n 0, 1) := by decide +kernel
theorem dJ1_charAt_3b067_7 : decode cJ1_charAt_3b067 7 = .ok (.iload_n 1, 1) := by decide +kernel
theorem dJ1_charAt_3b067_8 : decode cJ1_charAt_3b067 8 = .ok (.baload, 1) := by decide +kernel
theorem dJ1_charAt_3b067_9 : decode cJ1_charAt_3b067 9 = .ok (.sipush 255, 3) := by decide +kernel
theorem dJ1_charAt_3b067_12 : decode cJ1_charAt_3b067 12 = .ok (.iand, 1) := by decide +kernel
theorem dJ1_charAt_3b067_13 : decode cJ1_charAt_3b067 13 = .ok (.i2c, 1) := by decide +kernel
theorem dJ1_charAt_3b067_14 : decode cJ1_charAt_3b067 14 = .ok (.ireturn, 1) := by decide +kernel
theorem dJ1_canEncode_9a6ad_0 : decode cJ1_canEncode_9a6ad 0 = .ok (.iload_n 0, 1) := by decide +kernel
theorem dJ1_canEncode_9a6ad_1 : decode cJ1_canEncode_9a6ad 1 = .ok (.ifCond .lt 14, 3) := by decide +kernel
theorem dJ1_canEncode_9a6ad_4 : decode cJ1_canEncode_9a6ad 4 = .ok (.iload_n 0, 1) := by decide +kernel
theorem dJ1_canEncode_9a6ad_5 : decode cJ1_canEncode_9a6ad 5 = .ok (.sipush 255, 3) := by decide +kernel
theorem dJ1_canEncode_9a6ad_8 : decode cJ1_canEncode_9a6ad 8 = .ok (.if_icmp .gt 7, 3) := by decide +kernel
theorem dJ1_canEncode_9a6ad_11 : decode cJ1_canEncode_9a6ad 11 = .ok (.iconst 1, 1) := by decide +kernel
theorem dJ1_canEncode_9a6ad_12 : decode cJ1_canEncode_9a6ad 12 = .ok (.goto 4, 3) := by decide +kernel
theorem dJ1_canEncode_9a6ad_15 : decode cJ1_canEncode_9a6ad 15 = .ok (.iconst 0, 1) := by decide +kernel
theorem dJ1_canEncode_9a6ad_16 : decode cJ1_canEncode_9a6ad 16 = .ok (.ireturn, 1) := by decide +kernel
theorem dJ1_indexOf_4cfef_0 : decode cJ1_indexOf_4cfef 0 = .ok (.iload_n 1, 1) := by decide +kernel
theorem dJ1_indexOf_4cfef_1 : decode cJ1_indexOf_4cfef 1 = .ok (.invokestatic 88, 3) := by decide +kernel
theorem dJ1_indexOf_4cfef_4 : decode cJ1_indexOf_4cfef 4 = .ok (.ifCond .ne 5, 3) := by decide +kernel
theorem dJ1_indexOf_4cfef_7 : decode cJ1_indexOf_4cfef 7 = .ok (.iconst (-1), 1) := by decide +kernel
theorem dJ1_indexOf_4cfef_8 : decode cJ1_indexOf_4cfef 8 = .ok (.ireturn, 1) := by decide +kernel
theorem dJ1_indexOf_4cfef_9 : decode cJ1_indexOf_4cfef 9 = .ok (.iload_n 2, 1) := by decide +kernel
theorem dJ1_indexOf_4cfef_10 : decode cJ1_indexOf_4cfef 10 = .ok (.iconst 0, 1) := by decide +kernel
theorem dJ1_indexOf_4cfef_11 : decode cJ1_indexOf_4cfef 11 = .ok (.invokestatic 92, 3) := by decide +kernel
theorem dJ1_indexOf_4cfef_14 : decode cJ1_indexOf_4cfef 14 = .ok (.istore_n 2, 1) := by decide +kernel
theorem dJ1_indexOf_4cfef_15 : decode cJ1_indexOf_4cfef 15 = .ok (.iload_n 3, 1) := by decide +kernel
theorem dJ1_indexOf_4cfef_16 : decode cJ1_indexOf_4cfef 16 = .ok (.aload_n 0, 1) := by decide +kernel
theorem dJ1_indexOf_4cfef_17 : decode cJ1_indexOf_4cfef 17 = .ok (.arraylength, 1) := by decide +kernel
theorem dJ1_indexOf_4cfef_18 : decode cJ1_indexOf_4cfef 18 = .ok (.invokestatic 38, 3) := by decide +kernel
theorem dJ1_indexOf_4cfef_21 : decode cJ1_indexOf_4cfef 21 = .ok (.istore_n 3, 1) := by decide +kernel
theorem dJ1_indexOf_4cfef_22 : decode cJ1_indexOf_4cfef 22 = .ok (.iload_n 2, 1) := by decide +kernel
theorem dJ1_indexOf_4cfef_23 : decode cJ1_indexOf_4cfef 23 = .ok (.iload_n 3, 1) := by decide +kernel
theorem dJ1_indexOf_4cfef_24 : decode cJ1_indexOf_4cfef 24 = .ok (.if_icmp .lt 5, 3) := by decide +kernel
theorem dJ1_indexOf_4cfef_27 : decode cJ1_indexOf_4cfef 27 = .ok (.iconst (-1), 1) := by decide +kernel
theorem dJ1_indexOf_4cfef_28 : decode cJ1_indexOf_4cfef 28 = .ok (.ireturn, 1) := by decide +kernel
theorem dJ1_indexOf_4cfef_29 : decode cJ1_indexOf_4cfef 29 = .ok (.aload_n 0, 1) := by decide +kernel
theorem dJ1_indexOf_4cfef_30 : decode cJ1_indexOf_4cfef 30 = .ok (.iload_n 1, 1) := by decide +kernel
theorem dJ1_indexOf_4cfef_31 : decode cJ1_indexOf_4cfef 31 = .ok (.iload_n 2, 1) := by decide +kernel
theorem dJ1_indexOf_4cfef_32 : decode cJ1_indexOf_4cfef 32 = .ok (.iload_n 3, 1) := by decide +kernel
theorem dJ1_indexOf_4cfef_33 : decode cJ1_indexOf_4cfef 33 = .ok (.invokestatic 95, 3) := by decide +kernel
theorem dJ1_indexOf_4cfef_36 : decode cJ1_indexOf_4cfef 36 = .ok (.ireturn, 1) := by decide +kernel
theorem dJ1_indexOfChar_4cfef_0 : decode cJ1_indexOfChar_4cfef 0 = .ok (.iload_n 1, 1) := by decide +kernel
theorem dJ1_indexOfChar_4cfef_1 : decode cJ1_indexOfChar_4cfef 1 = .ok (.i2b, 1) := by decide +kernel
theorem dJ1_indexOfChar_4cfef_2 : decode cJ1_indexOfChar_4cfef 2 = .ok (.istore 4, 2) := by decide +kernel
theorem dJ1_indexOfChar_4cfef_4 : decode cJ1_indexOfChar_4cfef 4 = .ok (.iload_n 2, 1) := by decide +kernel
theorem dJ1_indexOfChar_4cfef_5 : decode cJ1_indexOfChar_4cfef 5 = .ok (.istore 5, 2) := by decide +kernel
theorem dJ1_indexOfChar_4cfef_7 : decode cJ1_indexOfChar_4cfef 7 = .ok (.iload 5, 2) := by decide +kernel
theorem dJ1_indexOfChar_4cfef_9 : decode cJ1_indexOfChar_4cfef 9 = .ok (.iload_n 3, 1) := by decide +kernel
theorem dJ1_indexOfChar_4cfef_10 : decode cJ1_indexOfChar_4cfef 10 = .ok (.if_icmp .ge 21, 3) := by decide +kernel
theorem dJ1_indexOfChar_4cfef_13 : decode cJ1_indexOfChar_4cfef 13 = .ok (.aload_n 0, 1) := by decide +kernel
theorem dJ1_indexOfChar_4cfef_14 : decode cJ1_indexOfChar_4cfef 14 = .ok (.iload 5, 2) := by decide +kernel
theorem dJ1_indexOfChar_4cfef_16 : decode cJ1_indexOfChar_4cfef 16 = .ok (.baload, 1) := by decide +kernel
theorem dJ1_indexOfChar_4cfef_17 : decode cJ1_indexOfChar_4cfef 17 = .ok (.iload 4, 2) := by decide +kernel
theorem dJ1_indexOfChar_4cfef_19 : decode cJ1_indexOfChar_4cfef 19 = .ok (.if_icmp .ne 6, 3) := by decide +kernel
theorem dJ1_indexOfChar_4cfef_22 : decode cJ1_indexOfChar_4cfef 22 = .ok (.iload 5, 2) := by decide +kernel
theorem dJ1_indexOfChar_4cfef_24 : decode cJ1_indexOfChar_4cfef 24 = .ok (.ireturn, 1) := by decide +kernel
theorem dJ1_indexOfChar_4cfef_25 : decode cJ1_indexOfChar_4cfef 25 = .ok (.iinc 5 1, 3) := by decide +kernel
theorem dJ1_indexOfChar_4cfef_28 : decode cJ1_indexOfChar_4cfef 28 = .ok (.goto (-21), 3) := by decide +kernel
theorem dJ1_indexOfChar_4cfef_31 : decode cJ1_indexOfChar_4cfef 31 = .ok (.iconst (-1), 1) := by decide +kernel
theorem dJ1_indexOfChar_4cfef_32 : decode cJ1_indexOfChar_4cfef 32 = .ok (.ireturn, 1) := by decide +kernel
theorem dJ2_getChar_3b067_0 : decode cJ2_getChar_3b067 0 = .ok (.getstatic 44, 3) := by decide +kernel
theorem dJ2_getChar_3b067_3 : decode cJ2_getChar_3b067 3 = .ok (.ifCond .ne 25, 3) := by decide +kernel
theorem dJ2_getChar_3b067_6 : decode cJ2_getChar_3b067 6 = .ok (.iload_n 1, 1) := by decide +kernel
theorem dJ2_getChar_3b067_7 : decode cJ2_getChar_3b067 7 = .ok (.ifCond .lt 11, 3) := by decide +kernel
theorem dJ2_getChar_3b067_10 : decode cJ2_getChar_3b067 10 = .ok (.iload_n 1, 1) := by decide +kernel
theorem dJ2_getChar_3b067_11 : decode cJ2_getChar_3b067 11 = .ok (.aload_n 0, 1) := by decide +kernel
theorem dJ2_getChar_3b067_12 : decode cJ2_getChar_3b067 12 = .ok (.invokestatic 48, 3) := by decide +kernel
theorem dJ2_getChar_3b067_15 : decode cJ2_getChar_3b067 15 = .ok (.if_icmp .lt 13, 3) := by decide +kernel
theorem dJ2_getChar_3b067_18 : decode cJ2_getChar_3b067 18 = .ok (.new 52, 3) := by decide +kernel
theorem dJ2_getChar_3b067_21 : decode cJ2_getChar_3b067 21 = .ok (.dup, 1) := by decide +kernel
theorem dJ2_getChar_3b067_22 : decode cJ2_getChar_3b067 22 = .ok (.ldc 54, 2) := by decide +kernel
theorem dJ2_getChar_3b067_24 : decode cJ2_getChar_3b067 24 = .ok (.invokespecial 56, 3) := by decide +kernel
theorem dJ2_getChar_3b067_27 : decode cJ2_getChar_3b067 27 = .ok (.athrow, 1) := by decide +kernel
theorem dJ2_getChar_3b067_28 : decode cJ2_getChar_3b067 28 = .ok (.iload_n 1, 1) := by decide +kernel
theorem dJ2_getChar_3b067_29 : decode cJ2_getChar_3b067 29 = .ok (.iconst 1, 1) := by decide +kernel
theorem dJ2_getChar_3b067_30 : decode cJ2_getChar_3b067 30 = .ok (.ishl, 1) := by decide +kernel
theorem dJ2_getChar_3b067_31 : decode cJ2_getChar_3b067 31 = .ok (.istore_n 1, 1) := by decide +kernel
theorem dJ2_getChar_3b067_32 : decode cJ2_getChar_3b067 32 = .ok (.aload_n 0, 1) := by decide +kernel
theorem dJ2_getChar_3b067_33 : decode cJ2_getChar_3b067 33 = .ok (.iload_n 1, 1) := by decide +kernel
theorem dJ2_getChar_3b067_34 : decode cJ2_getChar_3b067 34 = .ok (.iinc 1 1, 3) := by decide +kernel
theorem dJ2_getChar_3b067_37 : decode cJ2_getChar_3b067 37 = .ok (.baload, 1) := by decide +kernel
theorem dJ2_getChar_3b067_38 : decode cJ2_getChar_3b067 38 = .ok (.sipush 255, 3) := by decide +kernel
theorem dJ2_getChar_3b067_41 : decode cJ2_getChar_3b067 41 = .ok (.iand, 1) := by decide +kernel
theorem dJ2_getChar_3b067_42 : decode cJ2_getChar_3b067 42 = .ok (.getstatic 59, 3) := by decide +kernel
theorem dJ2_getChar_3b067_45 : decode cJ2_getChar_3b067 45 = .ok (.ishl, 1) := by decide +kernel
theorem dJ2_getChar_3b067_46 : decode cJ2_getChar_3b067 46 = .ok (.aload_n 0, 1) := by decide +kernel
theorem dJ2_getChar_3b067_47 : decode cJ2_getChar_3b067 47 = .ok (.iload_n 1, 1) := by decide +kernel
theorem dJ2_getChar_3b067_48 : decode cJ2_getChar_3b067 48 = .ok (.baload, 1) := by decide +kernel
theorem dJ2_getChar_3b067_49 : decode cJ2_getChar_3b067 49 = .ok (.sipush 255, 3) := by decide +kernel
theorem dJ2_getChar_3b067_52 : decode cJ2_getChar_3b067 52 = .ok (.iand, 1) := by decide +kernel
theorem dJ2_getChar_3b067_53 : decode cJ2_getChar_3b067 53 = .ok (.getstatic 63, 3) := by decide +kernel
theorem dJ2_getChar_3b067_56 : decode cJ2_getChar_3b067 56 = .ok (.ishl, 1) := by decide +kernel
theorem dJ2_getChar_3b067_57 : decode cJ2_getChar_3b067 57 = .ok (.ior, 1) := by decide +kernel
theorem dJ2_getChar_3b067_58 : decode cJ2_getChar_3b067 58 = .ok (.i2c, 1) := by decide +kernel
theorem dJ2_getChar_3b067_59 : decode cJ2_getChar_3b067 59 = .ok (.ireturn, 1) := by decide +kernel
theorem dJ2_length_9d52b_0 : decode cJ2_length_9d52b 0 = .ok (.aload_n 0, 1) := by decide +kernel
theorem dJ2_length_9d52b_1 : decode cJ2_length_9d52b 1 = .ok (.arraylength, 1) := by decide +kernel
theorem dJ2_length_9d52b_2 : decode cJ2_length_9d52b 2 = .ok (.iconst 1, 1) := by decide +kernel
theorem dJ2_length_9d52b_3 : decode cJ2_length_9d52b 3 = .ok (.ishr, 1) := by decide +kernel
theorem dJ2_length_9d52b_4 : decode cJ2_length_9d52b 4 = .ok (.ireturn, 1) := by decide +kernel
theorem dJ2_indexOf_4cfef_0 : decode cJ2_indexOf_4cfef 0 = .ok (.iload_n 2, 1) := by decide +kernel
theorem dJ2_indexOf_4cfef_1 : decode cJ2_indexOf_4cfef 1 = .ok (.iconst 0, 1) := by decide +kernel
theorem dJ2_indexOf_4cfef_2 : decode cJ2_indexOf_4cfef 2 = .ok (.invokestatic 224, 3) := by decide +kernel
theorem dJ2_indexOf_4cfef_5 : decode cJ2_indexOf_4cfef 5 = .ok (.istore_n 2, 1) := by decide +kernel
theorem dJ2_indexOf_4cfef_6 : decode cJ2_indexOf_4cfef 6 = .ok (.iload_n 3, 1) := by decide +kernel
theorem dJ2_indexOf_4cfef_7 : decode cJ2_indexOf_4cfef 7 = .ok (.aload_n 0, 1) := by decide +kernel
theorem dJ2_indexOf_4cfef_8 : decode cJ2_indexOf_4cfef 8 = .ok (.arraylength, 1) := by decide +kernel
theorem dJ2_indexOf_4cfef_9 : decode cJ2_indexOf_4cfef 9 = .ok (.iconst 1, 1) := by decide +kernel
theorem dJ2_indexOf_4cfef_10 : decode cJ2_indexOf_4cfef 10 = .ok (.ishr, 1) := by decide +kernel
theorem dJ2_indexOf_4cfef_11 : decode cJ2_indexOf_4cfef 11 = .ok (.invokestatic 183, 3) := by decide +kernel
theorem dJ2_indexOf_4cfef_14 : decode cJ2_indexOf_4cfef 14 = .ok (.istore_n 3, 1) := by decide +kernel
theorem dJ2_indexOf_4cfef_15 : decode cJ2_indexOf_4cfef 15 = .ok (.iload_n 2, 1) := by decide +kernel
theorem dJ2_indexOf_4cfef_16 : decode cJ2_indexOf_4cfef 16 = .ok (.iload_n 3, 1) := by decide +kernel
theorem dJ2_indexOf_4cfef_17 : decode cJ2_indexOf_4cfef 17 = .ok (.if_icmp .lt 5, 3) := by decide +kernel
theorem dJ2_indexOf_4cfef_20 : decode cJ2_indexOf_4cfef 20 = .ok (.iconst (-1), 1) := by decide +kernel
theorem dJ2_indexOf_4cfef_21 : decode cJ2_indexOf_4cfef 21 = .ok (.ireturn, 1) := by decide +kernel
theorem dJ2_indexOf_4cfef_22 : decode cJ2_indexOf_4cfef 22 = .ok (.iload_n 1, 1) := by decide +kernel
theorem dJ2_indexOf_4cfef_23 : decode cJ2_indexOf_4cfef 23 = .ok (.ldc 227, 2) := by decide +kernel
theorem dJ2_indexOf_4cfef_25 : decode cJ2_indexOf_4cfef 25 = .ok (.if_icmp .ge 11, 3) := by decide +kernel
theorem dJ2_indexOf_4cfef_28 : decode cJ2_indexOf_4cfef 28 = .ok (.aload_n 0, 1) := by decide +kernel
theorem dJ2_indexOf_4cfef_29 : decode cJ2_indexOf_4cfef 29 = .ok (.iload_n 1, 1) := by decide +kernel
theorem dJ2_indexOf_4cfef_30 : decode cJ2_indexOf_4cfef 30 = .ok (.iload_n 2, 1) := by decide +kernel
theorem dJ2_indexOf_4cfef_31 : decode cJ2_indexOf_4cfef 31 = .ok (.iload_n 3, 1) := by decide +kernel
theorem dJ2_indexOf_4cfef_32 : decode cJ2_indexOf_4cfef 32 = .ok (.invokestatic 228, 3) := by decide +kernel
theorem dJ2_indexOf_4cfef_35 : decode cJ2_indexOf_4cfef 35 = .ok (.ireturn, 1) := by decide +kernel
theorem dJ2_indexOf_4cfef_36 : decode cJ2_indexOf_4cfef 36 = .ok (.aload_n 0, 1) := by decide +kernel
theorem dJ2_indexOf_4cfef_37 : decode cJ2_indexOf_4cfef 37 = .ok (.iload_n 1, 1) := by decide +kernel
theorem dJ2_indexOf_4cfef_38 : decode cJ2_indexOf_4cfef 38 = .ok (.iload_n 2, 1) := by decide +kernel
theorem dJ2_indexOf_4cfef_39 : decode cJ2_indexOf_4cfef 39 = .ok (.iload_n 3, 1) := by decide +kernel
theorem dJ2_indexOf_4cfef_40 : decode cJ2_indexOf_4cfef 40 = .ok (.invokestatic 232, 3) := by decide +kernel
theorem dJ2_indexOf_4cfef_43 : decode cJ2_indexOf_4cfef 43 = .ok (.ireturn, 1) := by decide +kernel
theorem dJ2_indexOfChar_4cfef_0 : decode cJ2_indexOfChar_4cfef 0 = .ok (.iload_n 2, 1) := by decide +kernel
theorem dJ2_indexOfChar_4cfef_1 : decode cJ2_indexOfChar_4cfef 1 = .ok (.iload_n 3, 1) := by decide +kernel
theorem dJ2_indexOfChar_4cfef_2 : decode cJ2_indexOfChar_4cfef 2 = .ok (.aload_n 0, 1) := by decide +kernel
theorem dJ2_indexOfChar_4cfef_3 : decode cJ2_indexOfChar_4cfef 3 = .ok (.invokestatic 96, 3) := by decide +kernel
theorem dJ2_indexOfChar_4cfef_6 : decode cJ2_indexOfChar_4cfef 6 = .ok (.aload_n 0, 1) := by decide +kernel
theorem dJ2_indexOfChar_4cfef_7 : decode cJ2_indexOfChar_4cfef 7 = .ok (.iload_n 1, 1) := by decide +kernel
theorem dJ2_indexOfChar_4cfef_8 : decode cJ2_indexOfChar_4cfef 8 = .ok (.iload_n 2, 1) := by decide +kernel
theorem dJ2_indexOfChar_4cfef_9 : decode cJ2_indexOfChar_4cfef 9 = .ok (.iload_n 3, 1) := by decide +kernel
theorem dJ2_indexOfChar_4cfef_10 : decode cJ2_indexOfChar_4cfef 10 = .ok (.invokestatic 244, 3) := by decide +kernel
theorem dJ2_indexOfChar_4cfef_13 : decode cJ2_indexOfChar_4cfef 13 = .ok (.ireturn, 1) := by decide +kernel
theorem dJ2_indexOfCharUnsafe_4cfef_0 : decode cJ2_indexOfCharUnsafe_4cfef 0 = .ok (.iload_n 2, 1) := by decide +kernel
theorem dJ2_indexOfCharUnsafe_4cfef_1 : decode cJ2_indexOfCharUnsafe_4cfef 1 = .ok (.istore 4, 2) := by decide +kernel
theorem dJ2_indexOfCharUnsafe_4cfef_3 : decode cJ2_indexOfCharUnsafe_4cfef 3 = .ok (.iload 4, 2) := by decide +kernel
theorem dJ2_indexOfCharUnsafe_4cfef_5 : decode cJ2_indexOfCharUnsafe_4cfef 5 = .ok (.iload_n 3, 1) := by decide +kernel
theorem dJ2_indexOfCharUnsafe_4cfef_6 : decode cJ2_indexOfCharUnsafe_4cfef 6 = .ok (.if_icmp .ge 22, 3) := by decide +kernel
theorem dJ2_indexOfCharUnsafe_4cfef_9 : decode cJ2_indexOfCharUnsafe_4cfef 9 = .ok (.aload_n 0, 1) := by decide +kernel
theorem dJ2_indexOfCharUnsafe_4cfef_10 : decode cJ2_indexOfCharUnsafe_4cfef 10 = .ok (.iload 4, 2) := by decide +kernel
theorem dJ2_indexOfCharUnsafe_4cfef_12 : decode cJ2_indexOfCharUnsafe_4cfef 12 = .ok (.invokestatic 71, 3) := by decide +kernel
theorem dJ2_indexOfCharUnsafe_4cfef_15 : decode cJ2_indexOfCharUnsafe_4cfef 15 = .ok (.iload_n 1, 1) := by decide +kernel
theorem dJ2_indexOfCharUnsafe_4cfef_16 : decode cJ2_indexOfCharUnsafe_4cfef 16 = .ok (.if_icmp .ne 6, 3) := by decide +kernel
theorem dJ2_indexOfCharUnsafe_4cfef_19 : decode cJ2_indexOfCharUnsafe_4cfef 19 = .ok (.iload 4, 2) := by decide +kernel
theorem dJ2_indexOfCharUnsafe_4cfef_21 : decode cJ2_indexOfCharUnsafe_4cfef 21 = .ok (.ireturn, 1) := by decide +kernel
theorem dJ2_indexOfCharUnsafe_4cfef_22 : decode cJ2_indexOfCharUnsafe_4cfef 22 = .ok (.iinc 4 1, 3) := by decide +kernel
theorem dJ2_indexOfCharUnsafe_4cfef_25 : decode cJ2_indexOfCharUnsafe_4cfef 25 = .ok (.goto (-22), 3) := by decide +kernel
theorem dJ2_indexOfCharUnsafe_4cfef_28 : decode cJ2_indexOfCharUnsafe_4cfef 28 = .ok (.iconst (-1), 1) := by decide +kernel
theorem dJ2_indexOfCharUnsafe_4cfef_29 : decode cJ2_indexOfCharUnsafe_4cfef 29 = .ok (.ireturn, 1) := by decide +kernel
theorem dJ2_indexOfSupplementary_4cfef_0 : decode cJ2_indexOfSupplementary_4cfef 0 = .ok (.iload_n 1, 1) := by decide +kernel
theorem dJ2_indexOfSupplementary_4cfef_1 : decode cJ2_indexOfSupplementary_4cfef 1 = .ok (.invokestatic 164, 3) := by decide +kernel
theorem dJ2_indexOfSupplementary_4cfef_4 : decode cJ2_indexOfSupplementary_4cfef 4 = .ok (.ifCond .eq 65, 3) := by decide +kernel
theorem dJ2_indexOfSupplementary_4cfef_7 : decode cJ2_indexOfSupplementary_4cfef 7 = .ok (.iload_n 1, 1) := by decide +kernel
theorem dJ2_indexOfSupplementary_4cfef_8 : decode cJ2_indexOfSupplementary_4cfef 8 = .ok (.invokestatic 157, 3) := by decide +kernel
theorem dJ2_indexOfSupplementary_4cfef_11 : decode cJ2_indexOfSupplementary_4cfef 11 = .ok (.istore 4, 2) := by decide +kernel
theorem dJ2_indexOfSupplementary_4cfef_13 : decode cJ2_indexOfSupplementary_4cfef 13 = .ok (.iload_n 1, 1) := by decide +kernel
theorem dJ2_indexOfSupplementary_4cfef_14 : decode cJ2_indexOfSupplementary_4cfef 14 = .ok (.invokestatic 161, 3) := by decide +kernel
theorem dJ2_indexOfSupplementary_4cfef_17 : decode cJ2_indexOfSupplementary_4cfef 17 = .ok (.istore 5, 2) := by decide +kernel
theorem dJ2_indexOfSupplementary_4cfef_19 : decode cJ2_indexOfSupplementary_4cfef 19 = .ok (.iload_n 2, 1) := by decide +kernel
theorem dJ2_indexOfSupplementary_4cfef_20 : decode cJ2_indexOfSupplementary_4cfef 20 = .ok (.iload_n 3, 1) := by decide +kernel
theorem dJ2_indexOfSupplementary_4cfef_21 : decode cJ2_indexOfSupplementary_4cfef 21 = .ok (.aload_n 0, 1) := by decide +kernel
theorem dJ2_indexOfSupplementary_4cfef_22 : decode cJ2_indexOfSupplementary_4cfef 22 = .ok (.invokestatic 96, 3) := by decide +kernel
theorem dJ2_indexOfSupplementary_4cfef_25 : decode cJ2_indexOfSupplementary_4cfef 25 = .ok (.iload_n 2, 1) := by decide +kernel
theorem dJ2_indexOfSupplementary_4cfef_26 : decode cJ2_indexOfSupplementary_4cfef 26 = .ok (.istore 6, 2) := by decide +kernel
theorem dJ2_indexOfSupplementary_4cfef_28 : decode cJ2_indexOfSupplementary_4cfef 28 = .ok (.iload 6, 2) := by decide +kernel
theorem dJ2_indexOfSupplementary_4cfef_30 : decode cJ2_indexOfSupplementary_4cfef 30 = .ok (.iload_n 3, 1) := by decide +kernel
theorem dJ2_indexOfSupplementary_4cfef_31 : decode cJ2_indexOfSupplementary_4cfef 31 = .ok (.iconst 1, 1) := by decide +kernel
theorem dJ2_indexOfSupplementary_4cfef_32 : decode cJ2_indexOfSupplementary_4cfef 32 = .ok (.isub, 1) := by decide +kernel
theorem dJ2_indexOfSupplementary_4cfef_33 : decode cJ2_indexOfSupplementary_4cfef 33 = .ok (.if_icmp .ge 36, 3) := by decide +kernel
theorem dJ2_indexOfSupplementary_4cfef_36 : decode cJ2_indexOfSupplementary_4cfef 36 = .ok (.aload_n 0, 1) := by decide +kernel
theorem dJ2_indexOfSupplementary_4cfef_37 : decode cJ2_indexOfSupplementary_4cfef 37 = .ok (.iload 6, 2) := by decide +kernel
theorem dJ2_indexOfSupplementary_4cfef_39 : decode cJ2_indexOfSupplementary_4cfef 39 = .ok (.invokestatic 71, 3) := by decide +kernel
theorem dJ2_indexOfSupplementary_4cfef_42 : decode cJ2_indexOfSupplementary_4cfef 42 = .ok (.iload 4, 2) := by decide +kernel
theorem dJ2_indexOfSupplementary_4cfef_44 : decode cJ2_indexOfSupplementary_4cfef 44 = .ok (.if_icmp .ne 19, 3) := by decide +kernel
theorem dJ2_indexOfSupplementary_4cfef_47 : decode cJ2_indexOfSupplementary_4cfef 47 = .ok (.aload_n 0, 1) := by decide +kernel
theorem dJ2_indexOfSupplementary_4cfef_48 : decode cJ2_indexOfSupplementary_4cfef 48 = .ok (.iload 6, 2) := by decide +kernel
theorem dJ2_indexOfSupplementary_4cfef_50 : decode cJ2_indexOfSupplementary_4cfef 50 = .ok (.iconst 1, 1) := by decide +kernel
theorem dJ2_indexOfSupplementary_4cfef_51 : decode cJ2_indexOfSupplementary_4cfef 51 = .ok (.iadd, 1) := by decide +kernel
theorem dJ2_indexOfSupplementary_4cfef_52 : decode cJ2_indexOfSupplementary_4cfef 52 = .ok (.invokestatic 71, 3) := by decide +kernel
theorem dJ2_indexOfSupplementary_4cfef_55 : decode cJ2_indexOfSupplementary_4cfef 55 = .ok (.iload 5, 2) := by decide +kernel
theorem dJ2_indexOfSupplementary_4cfef_57 : decode cJ2_indexOfSupplementary_4cfef 57 = .ok (.if_icmp .ne 6, 3) := by decide +kernel
theorem dJ2_indexOfSupplementary_4cfef_60 : decode cJ2_indexOfSupplementary_4cfef 60 = .ok (.iload 6, 2) := by decide +kernel
theorem dJ2_indexOfSupplementary_4cfef_62 : decode cJ2_indexOfSupplementary_4cfef 62 = .ok (.ireturn, 1) := by decide +kernel
theorem dJ2_indexOfSupplementary_4cfef_63 : decode cJ2_indexOfSupplementary_4cfef 63 = .ok (.iinc 6 1, 3) := by decide +kernel
theorem dJ2_indexOfSupplementary_4cfef_66 : decode cJ2_indexOfSupplementary_4cfef 66 = .ok (.goto (-38), 3) := by decide +kernel
theorem dJ2_indexOfSupplementary_4cfef_69 : decode cJ2_indexOfSupplementary_4cfef 69 = .ok (.iconst (-1), 1) := by decide +kernel
theorem dJ2_indexOfSupplementary_4cfef_70 : decode cJ2_indexOfSupplementary_4cfef 70 = .ok (.ireturn, 1) := by decide +kernel
theorem dJ2_charAt_3b067_0 : decode cJ2_charAt_3b067 0 = .ok (.iload_n 1, 1) := by decide +kernel
theorem dJ2_charAt_3b067_1 : decode cJ2_charAt_3b067 1 = .ok (.aload_n 0, 1) := by decide +kernel
theorem dJ2_charAt_3b067_2 : decode cJ2_charAt_3b067 2 = .ok (.invokestatic 67, 3) := by decide +kernel
theorem dJ2_charAt_3b067_5 : decode cJ2_charAt_3b067 5 = .ok (.aload_n 0, 1) := by decide +kernel
theorem dJ2_charAt_3b067_6 : decode cJ2_charAt_3b067 6 = .ok (.iload_n 1, 1) := by decide +kernel
theorem dJ2_charAt_3b067_7 : decode cJ2_charAt_3b067 7 = .ok (.invokestatic 71, 3) := by decide +kernel
theorem dJ2_charAt_3b067_10 : decode cJ2_charAt_3b067 10 = .ok (.ireturn, 1) := by decide +kernel
theorem dJ2_checkIndex_2214a_0 : decode cJ2_checkIndex_2214a 0 = .ok (.iload_n 0, 1) := by decide +kernel
theorem dJ2_checkIndex_2214a_1 : decode cJ2_checkIndex_2214a 1 = .ok (.aload_n 1, 1) := by decide +kernel
theorem dJ2_checkIndex_2214a_2 : decode cJ2_checkIndex_2214a 2 = .ok (.invokestatic 48, 3) := by decide +kernel
theorem dJ2_checkIndex_2214a_5 : decode cJ2_checkIndex_2214a 5 = .ok (.invokestatic 414, 3) := by decide +kernel
theorem dJ2_checkIndex_2214a_8 : decode cJ2_checkIndex_2214a 8 = .ok (.return_, 1) := by decide +kernel
theorem dJ2_checkBoundsBeginEnd_d044e_0 : decode cJ2_checkBoundsBeginEnd_d044e 0 = .ok (.iload_n 0, 1) := by decide +kernel
theorem dJ2_checkBoundsBeginEnd_d044e_1 : decode cJ2_checkBoundsBeginEnd_d044e 1 = .ok (.iload_n 1, 1) := by decide +kernel
theorem dJ2_checkBoundsBeginEnd_d044e_2 : decode cJ2_checkBoundsBeginEnd_d044e 2 = .ok (.aload_n 2, 1) := by decide +kernel
theorem dJ2_checkBoundsBeginEnd_d044e_3 : decode cJ2_checkBoundsBeginEnd_d044e 3 = .ok (.invokestatic 48, 3) := by decide +kernel
theorem dJ2_checkBoundsBeginEnd_d044e_6 : decode cJ2_checkBoundsBeginEnd_d044e 6 = .ok (.invokestatic 241, 3) := by decide +kernel
theorem dJ2_checkBoundsBeginEnd_d044e_9 : decode cJ2_checkBoundsBeginEnd_d044e 9 = .ok (.return_, 1) := by decide +kernel
theorem dJ7_fill_53178_0 : decode cJ7_fill_53178 0 = .ok (.iconst 0, 1) := by decide +kernel
theorem dJ7_fill_53178_1 : decode cJ7_fill_53178 1 = .ok (.istore_n 2, 1) := by decide +kernel
theorem dJ7_fill_53178_2 : decode cJ7_fill_53178 2 = .ok (.aload_n 0, 1) := by decide +kernel
theorem dJ7_fill_53178_3 : decode cJ7_fill_53178 3 = .ok (.arraylength, 1) := by decide +kernel
theorem dJ7_fill_53178_4 : decode cJ7_fill_53178 4 = .ok (.istore_n 3, 1) := by decide +kernel
theorem dJ7_fill_53178_5 : decode cJ7_fill_53178 5 = .ok (.iload_n 2, 1) := by decide +kernel
theorem dJ7_fill_53178_6 : decode cJ7_fill_53178 6 = .ok (.iload_n 3, 1) := by decide +kernel
theorem dJ7_fill_53178_7 : decode cJ7_fill_53178 7 = .ok (.if_icmp .ge 13, 3) := by decide +kernel
theorem dJ7_fill_53178_10 : decode cJ7_fill_53178 10 = .ok (.aload_n 0, 1) := by decide +kernel
theorem dJ7_fill_53178_11 : decode cJ7_fill_53178 11 = .ok (.iload_n 2, 1) := by decide +kernel
theorem dJ7_fill_53178_12 : decode cJ7_fill_53178 12 = .ok (.iload_n 1, 1) := by decide +kernel
theorem dJ7_fill_53178_13 : decode cJ7_fill_53178 13 = .ok (.iastore, 1) := by decide +kernel
theorem dJ7_fill_53178_14 : decode cJ7_fill_53178 14 = .ok (.iinc 2 1, 3) := by decide +kernel
theorem dJ7_fill_53178_17 : decode cJ7_fill_53178 17 = .ok (.goto (-12), 3) := by decide +kernel
theorem dJ7_fill_53178_20 : decode cJ7_fill_53178 20 = .ok (.return_, 1) := by decide +kernel
theorem dJ3_checkIndex_8e157_0 : decode cJ3_checkIndex_8e157 0 = .ok (.iload_n 0, 1) := by decide +kernel
theorem dJ3_checkIndex_8e157_1 : decode cJ3_checkIndex_8e157 1 = .ok (.ifCond .lt 8, 3) := by decide +kernel
theorem dJ3_checkIndex_8e157_4 : decode cJ3_checkIndex_8e157 4 = .ok (.iload_n 0, 1) := by decide +kernel
theorem dJ3_checkIndex_8e157_5 : decode cJ3_checkIndex_8e157 5 = .ok (.iload_n 1, 1) := by decide +kernel
theorem dJ3_checkIndex_8e157_6 : decode cJ3_checkIndex_8e157 6 = .ok (.if_icmp .lt 10, 3) := by decide +kernel
theorem dJ3_checkIndex_8e157_9 : decode cJ3_checkIndex_8e157 9 = .ok (.aload_n 2, 1) := by decide +kernel
theorem dJ3_checkIndex_8e157_10 : decode cJ3_checkIndex_8e157 10 = .ok (.iload_n 0, 1) := by decide +kernel
theorem dJ3_checkIndex_8e157_11 : decode cJ3_checkIndex_8e157 11 = .ok (.iload_n 1, 1) := by decide +kernel
theorem dJ3_checkIndex_8e157_12 : decode cJ3_checkIndex_8e157 12 = .ok (.invokestatic 95, 3) := by decide +kernel
theorem dJ3_checkIndex_8e157_15 : decode cJ3_checkIndex_8e157 15 = .ok (.athrow, 1) := by decide +kernel
theorem dJ3_checkIndex_8e157_16 : decode cJ3_checkIndex_8e157 16 = .ok (.iload_n 0, 1) := by decide +kernel
theorem dJ3_checkIndex_8e157_17 : decode cJ3_checkIndex_8e157 17 = .ok (.ireturn, 1) := by decide +kernel
theorem dJ3_checkFromToIndex_8c36e_0 : decode cJ3_checkFromToIndex_8c36e 0 = .ok (.iload_n 0, 1) := by decide +kernel
theorem dJ3_checkFromToIndex_8c36e_1 : decode cJ3_checkFromToIndex_8c36e 1 = .ok (.ifCond .lt 13, 3) := by decide +kernel
theorem dJ3_checkFromToIndex_8c36e_4 : decode cJ3_checkFromToIndex_8c36e 4 = .ok (.iload_n 0, 1) := by decide +kernel
theorem dJ3_checkFromToIndex_8c36e_5 : decode cJ3_checkFromToIndex_8c36e 5 = .ok (.iload_n 1, 1) := by decide +kernel
theorem dJ3_checkFromToIndex_8c36e_6 : decode cJ3_checkFromToIndex_8c36e 6 = .ok (.if_icmp .gt 8, 3) := by decide +kernel
theorem dJ3_checkFromToIndex_8c36e_9 : decode cJ3_checkFromToIndex_8c36e 9 = .ok (.iload_n 1, 1) := by decide +kernel
theorem dJ3_checkFromToIndex_8c36e_10 : decode cJ3_checkFromToIndex_8c36e 10 = .ok (.iload_n 2, 1) := by decide +kernel
theorem dJ3_checkFromToIndex_8c36e_11 : decode cJ3_checkFromToIndex_8c36e 11 = .ok (.if_icmp .le 11, 3) := by decide +kernel
theorem dJ3_checkFromToIndex_8c36e_14 : decode cJ3_checkFromToIndex_8c36e 14 = .ok (.aload_n 3, 1) := by decide +kernel
theorem dJ3_checkFromToIndex_8c36e_15 : decode cJ3_checkFromToIndex_8c36e 15 = .ok (.iload_n 0, 1) := by decide +kernel
theorem dJ3_checkFromToIndex_8c36e_16 : decode cJ3_checkFromToIndex_8c36e 16 = .ok (.iload_n 1, 1) := by decide +kernel
theorem dJ3_checkFromToIndex_8c36e_17 : decode cJ3_checkFromToIndex_8c36e 17 = .ok (.iload_n 2, 1) := by decide +kernel
theorem dJ3_checkFromToIndex_8c36e_18 : decode cJ3_checkFromToIndex_8c36e 18 = .ok (.invokestatic 99, 3) := by decide +kernel
theorem dJ3_checkFromToIndex_8c36e_21 : decode cJ3_checkFromToIndex_8c36e 21 = .ok (.athrow, 1) := by decide +kernel
theorem dJ3_checkFromToIndex_8c36e_22 : decode cJ3_checkFromToIndex_8c36e 22 = .ok (.iload_n 0, 1) := by decide +kernel
theorem dJ3_checkFromToIndex_8c36e_23 : decode cJ3_checkFromToIndex_8c36e 23 = .ok (.ireturn, 1) := by decide +kernel
theorem dL_rider_0 : decode cL_rider 0 = .ok (.aload_n 3, 1) := by decide +kernel
theorem dL_rider_1 : decode cL_rider 1 = .ok (.iconst 0, 1) := by decide +kernel
theorem dL_rider_2 : decode cL_rider 2 = .ok (.aload_n 0, 1) := by decide +kernel
theorem dL_rider_3 : decode cL_rider 3 = .ok (.iload_n 1, 1) := by decide +kernel
theorem dL_rider_4 : decode cL_rider 4 = .ok (.iload_n 2, 1) := by decide +kernel
theorem dL_rider_5 : decode cL_rider 5 = .ok (.invokevirtual 7, 3) := by decide +kernel
theorem dL_rider_8 : decode cL_rider 8 = .ok (.i2l, 1) := by decide +kernel
theorem dL_rider_9 : decode cL_rider 9 = .ok (.lastore, 1) := by decide +kernel
theorem dL_rider_10 : decode cL_rider 10 = .ok (.goto 7, 3) := by decide +kernel
theorem dL_rider_13 : decode cL_rider 13 = .ok (.astore 4, 2) := by decide +kernel
theorem dL_rider_15 : decode cL_rider 15 = .ok (.iconst 1, 1) := by decide +kernel
theorem dL_rider_16 : decode cL_rider 16 = .ok (.ireturn, 1) := by decide +kernel
theorem dL_rider_17 : decode cL_rider 17 = .ok (.iconst 0, 1) := by decide +kernel
theorem dL_rider_18 : decode cL_rider 18 = .ok (.ireturn, 1) := by decide +kernel
theorem dL_most_0 : decode cL_most 0 = .ok (.aload_n 2, 1) := by decide +kernel
theorem dL_most_1 : decode cL_most 1 = .ok (.iconst 0, 1) := by decide +kernel
theorem dL_most_2 : decode cL_most 2 = .ok (.aload_n 0, 1) := by decide +kernel
theorem dL_most_3 : decode cL_most 3 = .ok (.iload_n 1, 1) := by decide +kernel
theorem dL_most_4 : decode cL_most 4 = .ok (.invokevirtual 15, 3) := by decide +kernel
theorem dL_most_7 : decode cL_most 7 = .ok (.i2l, 1) := by decide +kernel
theorem dL_most_8 : decode cL_most 8 = .ok (.lastore, 1) := by decide +kernel
theorem dL_most_9 : decode cL_most 9 = .ok (.goto 6, 3) := by decide +kernel
theorem dL_most_12 : decode cL_most 12 = .ok (.astore_n 3, 1) := by decide +kernel
theorem dL_most_13 : decode cL_most 13 = .ok (.iconst 1, 1) := by decide +kernel
theorem dL_most_14 : decode cL_most 14 = .ok (.ireturn, 1) := by decide +kernel
theorem dL_most_15 : decode cL_most 15 = .ok (.iconst 0, 1) := by decide +kernel
theorem dL_most_16 : decode cL_most 16 = .ok (.ireturn, 1) := by decide +kernel
theorem dL_worst_0 : decode cL_worst 0 = .ok (.aload_n 1, 1) := by decide +kernel
theorem dL_worst_1 : decode cL_worst 1 = .ok (.iconst 0, 1) := by decide +kernel
theorem dL_worst_2 : decode cL_worst 2 = .ok (.aload_n 0, 1) := by decide +kernel
theorem dL_worst_3 : decode cL_worst 3 = .ok (.invokevirtual 19, 3) := by decide +kernel
theorem dL_worst_6 : decode cL_worst 6 = .ok (.i2l, 1) := by decide +kernel
theorem dL_worst_7 : decode cL_worst 7 = .ok (.lastore, 1) := by decide +kernel
theorem dL_worst_8 : decode cL_worst 8 = .ok (.goto 6, 3) := by decide +kernel
theorem dL_worst_11 : decode cL_worst 11 = .ok (.astore_n 2, 1) := by decide +kernel
theorem dL_worst_12 : decode cL_worst 12 = .ok (.iconst 1, 1) := by decide +kernel
theorem dL_worst_13 : decode cL_worst 13 = .ok (.ireturn, 1) := by decide +kernel
theorem dL_worst_14 : decode cL_worst 14 = .ok (.iconst 0, 1) := by decide +kernel
theorem dL_worst_15 : decode cL_worst 15 = .ok (.ireturn, 1) := by decide +kernel
theorem dL_law_0 : decode cL_law 0 = .ok (.new 8, 3) := by decide +kernel
theorem dL_law_3 : decode cL_law 3 = .ok (.dup, 1) := by decide +kernel
theorem dL_law_4 : decode cL_law 4 = .ok (.invokespecial 23, 3) := by decide +kernel
theorem dL_law_7 : decode cL_law 7 = .ok (.astore_n 1, 1) := by decide +kernel
theorem dL_law_8 : decode cL_law 8 = .ok (.new 24, 3) := by decide +kernel
theorem dL_law_11 : decode cL_law 11 = .ok (.dup, 1) := by decide +kernel
theorem dL_law_12 : decode cL_law 12 = .ok (.invokespecial 26, 3) := by decide +kernel
theorem dL_law_15 : decode cL_law 15 = .ok (.astore_n 2, 1) := by decide +kernel
theorem dL_law_16 : decode cL_law 16 = .ok (.iconst 1, 1) := by decide +kernel
theorem dL_law_17 : decode cL_law 17 = .ok (.newarray .long, 2) := by decide +kernel
theorem dL_law_19 : decode cL_law 19 = .ok (.astore_n 3, 1) := by decide +kernel
theorem dL_law_20 : decode cL_law 20 = .ok (.iconst 0, 1) := by decide +kernel
theorem dL_law_21 : decode cL_law 21 = .ok (.istore 4, 2) := by decide +kernel
theorem dL_law_23 : decode cL_law 23 = .ok (.iload 4, 2) := by decide +kernel
theorem dL_law_25 : decode cL_law 25 = .ok (.aload_n 0, 1) := by decide +kernel
theorem dL_law_26 : decode cL_law 26 = .ok (.arraylength, 1) := by decide +kernel
theorem dL_law_27 : decode cL_law 27 = .ok (.bipush 7, 2) := by decide +kernel
theorem dL_law_29 : decode cL_law 29 = .ok (.isub, 1) := by decide +kernel
theorem dL_law_30 : decode cL_law 30 = .ok (.if_icmp .gt 1171, 3) := by decide +kernel
theorem dL_law_33 : decode cL_law 33 = .ok (.aload_n 0, 1) := by decide +kernel
theorem dL_law_34 : decode cL_law 34 = .ok (.iload 4, 2) := by decide +kernel
theorem dL_law_36 : decode cL_law 36 = .ok (.iaload, 1) := by decide +kernel
theorem dL_law_37 : decode cL_law 37 = .ok (.bipush 31, 2) := by decide +kernel
theorem dL_law_39 : decode cL_law 39 = .ok (.iand, 1) := by decide +kernel
theorem dL_law_40 : decode cL_law 40 = .ok (.tableswitch 1155 0 26 #[124, 271, 284, 297, 310, 378, 415, 440, 489, 502, 539, 552, 565, 590, 627, 683, 727, 740, 777, 814, 876, 913, 926, 1003, 1028, 1077, 1130], 124) := by decide +kernel
theorem dL_law_164 : decode cL_law 164 = .ok (.aload_n 1, 1) := by decide +kernel
