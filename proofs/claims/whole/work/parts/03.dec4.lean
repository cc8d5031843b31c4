theorem dX6_ends_3 : decode cX6_ends 3 = .ok (.invokevirtual 71, 3) := by decide +kernel
theorem dX6_ends_6 : decode cX6_ends 6 = .ok (.istore_n 2, 1) := by decide +kernel
theorem dX6_ends_7 : decode cX6_ends 7 = .ok (.iconst 0, 1) := by decide +kernel
theorem dX6_ends_8 : decode cX6_ends 8 = .ok (.istore_n 3, 1) := by decide +kernel
theorem dX6_ends_9 : decode cX6_ends 9 = .ok (.iload_n 3, 1) := by decide +kernel
theorem dX6_ends_10 : decode cX6_ends 10 = .ok (.sipush 256, 3) := by decide +kernel
theorem dX6_ends_13 : decode cX6_ends 13 = .ok (.if_icmp .ge 45, 3) := by decide +kernel
theorem dX6_ends_16 : decode cX6_ends 16 = .ok (.iload_n 2, 1) := by decide +kernel
theorem dX6_ends_17 : decode cX6_ends 17 = .ok (.iload_n 1, 1) := by decide +kernel
theorem dX6_ends_18 : decode cX6_ends 18 = .ok (.if_icmp .ne 5, 3) := by decide +kernel
theorem dX6_ends_21 : decode cX6_ends 21 = .ok (.iconst 0, 1) := by decide +kernel
theorem dX6_ends_22 : decode cX6_ends 22 = .ok (.ireturn, 1) := by decide +kernel
theorem dX6_ends_23 : decode cX6_ends 23 = .ok (.aload_n 0, 1) := by decide +kernel
theorem dX6_ends_24 : decode cX6_ends 24 = .ok (.iload_n 2, 1) := by decide +kernel
theorem dX6_ends_25 : decode cX6_ends 25 = .ok (.invokevirtual 76, 3) := by decide +kernel
theorem dX6_ends_28 : decode cX6_ends 28 = .ok (.ifCond .eq 15, 3) := by decide +kernel
theorem dX6_ends_31 : decode cX6_ends 31 = .ok (.aload_n 0, 1) := by decide +kernel
theorem dX6_ends_32 : decode cX6_ends 32 = .ok (.iload_n 2, 1) := by decide +kernel
theorem dX6_ends_33 : decode cX6_ends 33 = .ok (.iconst 2, 1) := by decide +kernel
theorem dX6_ends_34 : decode cX6_ends 34 = .ok (.invokevirtual 71, 3) := by decide +kernel
theorem dX6_ends_37 : decode cX6_ends 37 = .ok (.iconst 4, 1) := by decide +kernel
theorem dX6_ends_38 : decode cX6_ends 38 = .ok (.irem, 1) := by decide +kernel
theorem dX6_ends_39 : decode cX6_ends 39 = .ok (.iconst 2, 1) := by decide +kernel
theorem dX6_ends_40 : decode cX6_ends 40 = .ok (.if_icmp .eq 5, 3) := by decide +kernel
theorem dX6_ends_43 : decode cX6_ends 43 = .ok (.iconst 1, 1) := by decide +kernel
theorem dX6_ends_44 : decode cX6_ends 44 = .ok (.ireturn, 1) := by decide +kernel
theorem dX6_ends_45 : decode cX6_ends 45 = .ok (.aload_n 0, 1) := by decide +kernel
theorem dX6_ends_46 : decode cX6_ends 46 = .ok (.iload_n 2, 1) := by decide +kernel
theorem dX6_ends_47 : decode cX6_ends 47 = .ok (.iconst 3, 1) := by decide +kernel
theorem dX6_ends_48 : decode cX6_ends 48 = .ok (.invokevirtual 71, 3) := by decide +kernel
theorem dX6_ends_51 : decode cX6_ends 51 = .ok (.istore_n 2, 1) := by decide +kernel
theorem dX6_ends_52 : decode cX6_ends 52 = .ok (.iinc 3 1, 3) := by decide +kernel
theorem dX6_ends_55 : decode cX6_ends 55 = .ok (.goto (-46), 3) := by decide +kernel
theorem dX6_ends_58 : decode cX6_ends 58 = .ok (.iconst 1, 1) := by decide +kernel
theorem dX6_ends_59 : decode cX6_ends 59 = .ok (.ireturn, 1) := by decide +kernel
theorem dX6_goodInfo_0 : decode cX6_goodInfo 0 = .ok (.aload_n 0, 1) := by decide +kernel
theorem dX6_goodInfo_1 : decode cX6_goodInfo 1 = .ok (.iload_n 1, 1) := by decide +kernel
theorem dX6_goodInfo_2 : decode cX6_goodInfo 2 = .ok (.invokevirtual 76, 3) := by decide +kernel
theorem dX6_goodInfo_5 : decode cX6_goodInfo 5 = .ok (.ifCond .ne 5, 3) := by decide +kernel
theorem dX6_goodInfo_8 : decode cX6_goodInfo 8 = .ok (.iconst 1, 1) := by decide +kernel
theorem dX6_goodInfo_9 : decode cX6_goodInfo 9 = .ok (.ireturn, 1) := by decide +kernel
theorem dX6_goodInfo_10 : decode cX6_goodInfo 10 = .ok (.aload_n 0, 1) := by decide +kernel
theorem dX6_goodInfo_11 : decode cX6_goodInfo 11 = .ok (.iload_n 1, 1) := by decide +kernel
theorem dX6_goodInfo_12 : decode cX6_goodInfo 12 = .ok (.iconst 3, 1) := by decide +kernel
theorem dX6_goodInfo_13 : decode cX6_goodInfo 13 = .ok (.invokevirtual 71, 3) := by decide +kernel
theorem dX6_goodInfo_16 : decode cX6_goodInfo 16 = .ok (.istore_n 2, 1) := by decide +kernel
theorem dX6_goodInfo_17 : decode cX6_goodInfo 17 = .ok (.aload_n 0, 1) := by decide +kernel
theorem dX6_goodInfo_18 : decode cX6_goodInfo 18 = .ok (.iload_n 1, 1) := by decide +kernel
theorem dX6_goodInfo_19 : decode cX6_goodInfo 19 = .ok (.iconst 0, 1) := by decide +kernel
theorem dX6_goodInfo_20 : decode cX6_goodInfo 20 = .ok (.invokevirtual 71, 3) := by decide +kernel
theorem dX6_goodInfo_23 : decode cX6_goodInfo 23 = .ok (.aload_n 0, 1) := by decide +kernel
theorem dX6_goodInfo_24 : decode cX6_goodInfo 24 = .ok (.iconst 4, 1) := by decide +kernel
theorem dX6_goodInfo_25 : decode cX6_goodInfo 25 = .ok (.invokevirtual 57, 3) := by decide +kernel
theorem dX6_goodInfo_28 : decode cX6_goodInfo 28 = .ok (.if_icmp .ge 59, 3) := by decide +kernel
theorem dX6_goodInfo_31 : decode cX6_goodInfo 31 = .ok (.aload_n 0, 1) := by decide +kernel
theorem dX6_goodInfo_32 : decode cX6_goodInfo 32 = .ok (.iload_n 1, 1) := by decide +kernel
theorem dX6_goodInfo_33 : decode cX6_goodInfo 33 = .ok (.iconst 1, 1) := by decide +kernel
theorem dX6_goodInfo_34 : decode cX6_goodInfo 34 = .ok (.invokevirtual 71, 3) := by decide +kernel
theorem dX6_goodInfo_37 : decode cX6_goodInfo 37 = .ok (.bipush 16, 2) := by decide +kernel
theorem dX6_goodInfo_39 : decode cX6_goodInfo 39 = .ok (.idiv, 1) := by decide +kernel
theorem dX6_goodInfo_40 : decode cX6_goodInfo 40 = .ok (.aload_n 0, 1) := by decide +kernel
theorem dX6_goodInfo_41 : decode cX6_goodInfo 41 = .ok (.iconst 5, 1) := by decide +kernel
theorem dX6_goodInfo_42 : decode cX6_goodInfo 42 = .ok (.invokevirtual 57, 3) := by decide +kernel
theorem dX6_goodInfo_45 : decode cX6_goodInfo 45 = .ok (.if_icmp .ge 42, 3) := by decide +kernel
theorem dX6_goodInfo_48 : decode cX6_goodInfo 48 = .ok (.aload_n 0, 1) := by decide +kernel
theorem dX6_goodInfo_49 : decode cX6_goodInfo 49 = .ok (.iload_n 1, 1) := by decide +kernel
theorem dX6_goodInfo_50 : decode cX6_goodInfo 50 = .ok (.iconst 1, 1) := by decide +kernel
theorem dX6_goodInfo_51 : decode cX6_goodInfo 51 = .ok (.invokevirtual 71, 3) := by decide +kernel
theorem dX6_goodInfo_54 : decode cX6_goodInfo 54 = .ok (.bipush 16, 2) := by decide +kernel
theorem dX6_goodInfo_56 : decode cX6_goodInfo 56 = .ok (.irem, 1) := by decide +kernel
theorem dX6_goodInfo_57 : decode cX6_goodInfo 57 = .ok (.aload_n 0, 1) := by decide +kernel
theorem dX6_goodInfo_58 : decode cX6_goodInfo 58 = .ok (.bipush 6, 2) := by decide +kernel
theorem dX6_goodInfo_60 : decode cX6_goodInfo 60 = .ok (.invokevirtual 57, 3) := by decide +kernel
theorem dX6_goodInfo_63 : decode cX6_goodInfo 63 = .ok (.if_icmp .ge 24, 3) := by decide +kernel
theorem dX6_goodInfo_66 : decode cX6_goodInfo 66 = .ok (.aload_n 0, 1) := by decide +kernel
theorem dX6_goodInfo_67 : decode cX6_goodInfo 67 = .ok (.iload_n 1, 1) := by decide +kernel
theorem dX6_goodInfo_68 : decode cX6_goodInfo 68 = .ok (.iconst 2, 1) := by decide +kernel
theorem dX6_goodInfo_69 : decode cX6_goodInfo 69 = .ok (.invokevirtual 71, 3) := by decide +kernel
theorem dX6_goodInfo_72 : decode cX6_goodInfo 72 = .ok (.iconst 4, 1) := by decide +kernel
theorem dX6_goodInfo_73 : decode cX6_goodInfo 73 = .ok (.idiv, 1) := by decide +kernel
theorem dX6_goodInfo_74 : decode cX6_goodInfo 74 = .ok (.aload_n 0, 1) := by decide +kernel
theorem dX6_goodInfo_75 : decode cX6_goodInfo 75 = .ok (.bipush 7, 2) := by decide +kernel
theorem dX6_goodInfo_77 : decode cX6_goodInfo 77 = .ok (.invokevirtual 57, 3) := by decide +kernel
theorem dX6_goodInfo_80 : decode cX6_goodInfo 80 = .ok (.if_icmp .ge 7, 3) := by decide +kernel
theorem dX6_goodInfo_83 : decode cX6_goodInfo 83 = .ok (.iconst 1, 1) := by decide +kernel
theorem dX6_goodInfo_84 : decode cX6_goodInfo 84 = .ok (.goto 4, 3) := by decide +kernel
theorem dX6_goodInfo_87 : decode cX6_goodInfo 87 = .ok (.iconst 0, 1) := by decide +kernel
theorem dX6_goodInfo_88 : decode cX6_goodInfo 88 = .ok (.istore_n 3, 1) := by decide +kernel
theorem dX6_goodInfo_89 : decode cX6_goodInfo 89 = .ok (.aload_n 0, 1) := by decide +kernel
theorem dX6_goodInfo_90 : decode cX6_goodInfo 90 = .ok (.iload_n 1, 1) := by decide +kernel
theorem dX6_goodInfo_91 : decode cX6_goodInfo 91 = .ok (.iconst 2, 1) := by decide +kernel
theorem dX6_goodInfo_92 : decode cX6_goodInfo 92 = .ok (.invokevirtual 71, 3) := by decide +kernel
theorem dX6_goodInfo_95 : decode cX6_goodInfo 95 = .ok (.iconst 4, 1) := by decide +kernel
theorem dX6_goodInfo_96 : decode cX6_goodInfo 96 = .ok (.irem, 1) := by decide +kernel
theorem dX6_goodInfo_97 : decode cX6_goodInfo 97 = .ok (.istore 4, 2) := by decide +kernel
theorem dX6_goodInfo_99 : decode cX6_goodInfo 99 = .ok (.iload_n 3, 1) := by decide +kernel
theorem dX6_goodInfo_100 : decode cX6_goodInfo 100 = .ok (.ifCond .eq 71, 3) := by decide +kernel
theorem dX6_goodInfo_103 : decode cX6_goodInfo 103 = .ok (.iload 4, 2) := by decide +kernel
theorem dX6_goodInfo_105 : decode cX6_goodInfo 105 = .ok (.ifCond .eq 62, 3) := by decide +kernel
theorem dX6_goodInfo_108 : decode cX6_goodInfo 108 = .ok (.iload 4, 2) := by decide +kernel
theorem dX6_goodInfo_110 : decode cX6_goodInfo 110 = .ok (.iconst 1, 1) := by decide +kernel
theorem dX6_goodInfo_111 : decode cX6_goodInfo 111 = .ok (.if_icmp .ne 16, 3) := by decide +kernel
theorem dX6_goodInfo_114 : decode cX6_goodInfo 114 = .ok (.iload_n 2, 1) := by decide +kernel
theorem dX6_goodInfo_115 : decode cX6_goodInfo 115 = .ok (.aload_n 0, 1) := by decide +kernel
theorem dX6_goodInfo_116 : decode cX6_goodInfo 116 = .ok (.bipush 8, 2) := by decide +kernel
theorem dX6_goodInfo_118 : decode cX6_goodInfo 118 = .ok (.invokevirtual 57, 3) := by decide +kernel
theorem dX6_goodInfo_121 : decode cX6_goodInfo 121 = .ok (.if_icmp .ge 50, 3) := by decide +kernel
theorem dX6_goodInfo_124 : decode cX6_goodInfo 124 = .ok (.goto 43, 3) := by decide +kernel
theorem dX6_goodInfo_127 : decode cX6_goodInfo 127 = .ok (.iload 4, 2) := by decide +kernel
theorem dX6_goodInfo_129 : decode cX6_goodInfo 129 = .ok (.iconst 2, 1) := by decide +kernel
theorem dX6_goodInfo_130 : decode cX6_goodInfo 130 = .ok (.if_icmp .ne 27, 3) := by decide +kernel
theorem dX6_goodInfo_133 : decode cX6_goodInfo 133 = .ok (.iload_n 2, 1) := by decide +kernel
theorem dX6_goodInfo_134 : decode cX6_goodInfo 134 = .ok (.iload_n 1, 1) := by decide +kernel
theorem dX6_goodInfo_135 : decode cX6_goodInfo 135 = .ok (.if_icmp .eq 36, 3) := by decide +kernel
theorem dX6_goodInfo_138 : decode cX6_goodInfo 138 = .ok (.aload_n 0, 1) := by decide +kernel
theorem dX6_goodInfo_139 : decode cX6_goodInfo 139 = .ok (.iload_n 2, 1) := by decide +kernel
theorem dX6_goodInfo_140 : decode cX6_goodInfo 140 = .ok (.invokevirtual 76, 3) := by decide +kernel
theorem dX6_goodInfo_143 : decode cX6_goodInfo 143 = .ok (.ifCond .eq 28, 3) := by decide +kernel
theorem dX6_goodInfo_146 : decode cX6_goodInfo 146 = .ok (.aload_n 0, 1) := by decide +kernel
theorem dX6_goodInfo_147 : decode cX6_goodInfo 147 = .ok (.iload_n 1, 1) := by decide +kernel
theorem dX6_goodInfo_148 : decode cX6_goodInfo 148 = .ok (.invokevirtual 80, 3) := by decide +kernel
theorem dX6_goodInfo_151 : decode cX6_goodInfo 151 = .ok (.ifCond .eq 20, 3) := by decide +kernel
theorem dX6_goodInfo_154 : decode cX6_goodInfo 154 = .ok (.goto 13, 3) := by decide +kernel
theorem dX6_goodInfo_157 : decode cX6_goodInfo 157 = .ok (.iload_n 2, 1) := by decide +kernel
theorem dX6_goodInfo_158 : decode cX6_goodInfo 158 = .ok (.aload_n 0, 1) := by decide +kernel
theorem dX6_goodInfo_159 : decode cX6_goodInfo 159 = .ok (.bipush 10, 2) := by decide +kernel
theorem dX6_goodInfo_161 : decode cX6_goodInfo 161 = .ok (.invokevirtual 57, 3) := by decide +kernel
theorem dX6_goodInfo_164 : decode cX6_goodInfo 164 = .ok (.if_icmp .ge 7, 3) := by decide +kernel
theorem dX6_goodInfo_167 : decode cX6_goodInfo 167 = .ok (.iconst 1, 1) := by decide +kernel
theorem dX6_goodInfo_168 : decode cX6_goodInfo 168 = .ok (.goto 4, 3) := by decide +kernel
theorem dX6_goodInfo_171 : decode cX6_goodInfo 171 = .ok (.iconst 0, 1) := by decide +kernel
theorem dX6_goodInfo_172 : decode cX6_goodInfo 172 = .ok (.ireturn, 1) := by decide +kernel
theorem dX6_goodFractions_0 : decode cX6_goodFractions 0 = .ok (.iconst 2, 1) := by decide +kernel
theorem dX6_goodFractions_1 : decode cX6_goodFractions 1 = .ok (.istore_n 1, 1) := by decide +kernel
theorem dX6_goodFractions_2 : decode cX6_goodFractions 2 = .ok (.iload_n 1, 1) := by decide +kernel
theorem dX6_goodFractions_3 : decode cX6_goodFractions 3 = .ok (.bipush 10, 2) := by decide +kernel
theorem dX6_goodFractions_5 : decode cX6_goodFractions 5 = .ok (.if_icmp .ge 113, 3) := by decide +kernel
theorem dX6_goodFractions_8 : decode cX6_goodFractions 8 = .ok (.aload_n 0, 1) := by decide +kernel
theorem dX6_goodFractions_9 : decode cX6_goodFractions 9 = .ok (.iload_n 1, 1) := by decide +kernel
theorem dX6_goodFractions_10 : decode cX6_goodFractions 10 = .ok (.invokevirtual 64, 3) := by decide +kernel
theorem dX6_goodFractions_13 : decode cX6_goodFractions 13 = .ok (.istore_n 2, 1) := by decide +kernel
theorem dX6_goodFractions_14 : decode cX6_goodFractions 14 = .ok (.iconst 0, 1) := by decide +kernel
theorem dX6_goodFractions_15 : decode cX6_goodFractions 15 = .ok (.istore_n 3, 1) := by decide +kernel
theorem dX6_goodFractions_16 : decode cX6_goodFractions 16 = .ok (.iload_n 3, 1) := by decide +kernel
theorem dX6_goodFractions_17 : decode cX6_goodFractions 17 = .ok (.aload_n 0, 1) := by decide +kernel
theorem dX6_goodFractions_18 : decode cX6_goodFractions 18 = .ok (.iload_n 1, 1) := by decide +kernel
theorem dX6_goodFractions_19 : decode cX6_goodFractions 19 = .ok (.iconst 2, 1) := by decide +kernel
theorem dX6_goodFractions_20 : decode cX6_goodFractions 20 = .ok (.iadd, 1) := by decide +kernel
theorem dX6_goodFractions_21 : decode cX6_goodFractions 21 = .ok (.invokevirtual 57, 3) := by decide +kernel
theorem dX6_goodFractions_24 : decode cX6_goodFractions 24 = .ok (.if_icmp .ge 88, 3) := by decide +kernel
theorem dX6_goodFractions_27 : decode cX6_goodFractions 27 = .ok (.iload_n 1, 1) := by decide +kernel
theorem dX6_goodFractions_28 : decode cX6_goodFractions 28 = .ok (.bipush 6, 2) := by decide +kernel
theorem dX6_goodFractions_30 : decode cX6_goodFractions 30 = .ok (.if_icmp .eq 82, 3) := by decide +kernel
theorem dX6_goodFractions_33 : decode cX6_goodFractions 33 = .ok (.iload_n 1, 1) := by decide +kernel
theorem dX6_goodFractions_34 : decode cX6_goodFractions 34 = .ok (.bipush 8, 2) := by decide +kernel
theorem dX6_goodFractions_36 : decode cX6_goodFractions 36 = .ok (.if_icmp .eq 76, 3) := by decide +kernel
theorem dX6_goodFractions_39 : decode cX6_goodFractions 39 = .ok (.aload_n 0, 1) := by decide +kernel
theorem dX6_goodFractions_40 : decode cX6_goodFractions 40 = .ok (.iload_n 2, 1) := by decide +kernel
theorem dX6_goodFractions_41 : decode cX6_goodFractions 41 = .ok (.iload_n 3, 1) := by decide +kernel
theorem dX6_goodFractions_42 : decode cX6_goodFractions 42 = .ok (.iadd, 1) := by decide +kernel
theorem dX6_goodFractions_43 : decode cX6_goodFractions 43 = .ok (.invokevirtual 83, 3) := by decide +kernel
theorem dX6_goodFractions_46 : decode cX6_goodFractions 46 = .ok (.istore 4, 2) := by decide +kernel
theorem dX6_goodFractions_48 : decode cX6_goodFractions 48 = .ok (.iload_n 3, 1) := by decide +kernel
theorem dX6_goodFractions_49 : decode cX6_goodFractions 49 = .ok (.ifCond .ne 19, 3) := by decide +kernel
theorem dX6_goodFractions_52 : decode cX6_goodFractions 52 = .ok (.iload_n 1, 1) := by decide +kernel
theorem dX6_goodFractions_53 : decode cX6_goodFractions 53 = .ok (.bipush 6, 2) := by decide +kernel
theorem dX6_goodFractions_55 : decode cX6_goodFractions 55 = .ok (.if_icmp .lt 9, 3) := by decide +kernel
theorem dX6_goodFractions_58 : decode cX6_goodFractions 58 = .ok (.iload_n 1, 1) := by decide +kernel
theorem dX6_goodFractions_59 : decode cX6_goodFractions 59 = .ok (.bipush 9, 2) := by decide +kernel
theorem dX6_goodFractions_61 : decode cX6_goodFractions 61 = .ok (.if_icmp .ne 7, 3) := by decide +kernel
theorem dX6_goodFractions_64 : decode cX6_goodFractions 64 = .ok (.iconst 1, 1) := by decide +kernel
theorem dX6_goodFractions_65 : decode cX6_goodFractions 65 = .ok (.goto 4, 3) := by decide +kernel
theorem dX6_goodFractions_68 : decode cX6_goodFractions 68 = .ok (.iconst 0, 1) := by decide +kernel
theorem dX6_goodFractions_69 : decode cX6_goodFractions 69 = .ok (.istore 5, 2) := by decide +kernel
theorem dX6_goodFractions_71 : decode cX6_goodFractions 71 = .ok (.iload 5, 2) := by decide +kernel
theorem dX6_goodFractions_73 : decode cX6_goodFractions 73 = .ok (.ifCond .eq 17, 3) := by decide +kernel
theorem dX6_goodFractions_76 : decode cX6_goodFractions 76 = .ok (.iload_n 1, 1) := by decide +kernel
theorem dX6_goodFractions_77 : decode cX6_goodFractions 77 = .ok (.bipush 6, 2) := by decide +kernel
theorem dX6_goodFractions_79 : decode cX6_goodFractions 79 = .ok (.if_icmp .ge 27, 3) := by decide +kernel
theorem dX6_goodFractions_82 : decode cX6_goodFractions 82 = .ok (.iload 4, 2) := by decide +kernel
theorem dX6_goodFractions_84 : decode cX6_goodFractions 84 = .ok (.ifCond .eq 22, 3) := by decide +kernel
theorem dX6_goodFractions_87 : decode cX6_goodFractions 87 = .ok (.goto 17, 3) := by decide +kernel
theorem dX6_goodFractions_90 : decode cX6_goodFractions 90 = .ok (.iload 4, 2) := by decide +kernel
theorem dX6_goodFractions_92 : decode cX6_goodFractions 92 = .ok (.ldc 86, 2) := by decide +kernel
theorem dX6_goodFractions_94 : decode cX6_goodFractions 94 = .ok (.if_icmp .lt 10, 3) := by decide +kernel
theorem dX6_goodFractions_97 : decode cX6_goodFractions 97 = .ok (.iload 4, 2) := by decide +kernel
theorem dX6_goodFractions_99 : decode cX6_goodFractions 99 = .ok (.ldc 87, 2) := by decide +kernel
theorem dX6_goodFractions_101 : decode cX6_goodFractions 101 = .ok (.if_icmp .lt 5, 3) := by decide +kernel
theorem dX6_goodFractions_104 : decode cX6_goodFractions 104 = .ok (.iconst 0, 1) := by decide +kernel
theorem dX6_goodFractions_105 : decode cX6_goodFractions 105 = .ok (.ireturn, 1) := by decide +kernel
theorem dX6_goodFractions_106 : decode cX6_goodFractions 106 = .ok (.iinc 3 1, 3) := by decide +kernel
theorem dX6_goodFractions_109 : decode cX6_goodFractions 109 = .ok (.goto (-93), 3) := by decide +kernel
theorem dX6_goodFractions_112 : decode cX6_goodFractions 112 = .ok (.iinc 1 1, 3) := by decide +kernel
theorem dX6_goodFractions_115 : decode cX6_goodFractions 115 = .ok (.goto (-113), 3) := by decide +kernel
theorem dX6_goodFractions_118 : decode cX6_goodFractions 118 = .ok (.iconst 1, 1) := by decide +kernel
theorem dX6_goodFractions_119 : decode cX6_goodFractions 119 = .ok (.ireturn, 1) := by decide +kernel
theorem dX6_step_0 : decode cX6_step 0 = .ok (.aload_n 0, 1) := by decide +kernel
theorem dX6_step_1 : decode cX6_step 1 = .ok (.bipush 6, 2) := by decide +kernel
theorem dX6_step_3 : decode cX6_step 3 = .ok (.iload_n 1, 1) := by decide +kernel
theorem dX6_step_4 : decode cX6_step 4 = .ok (.iload_n 2, 1) := by decide +kernel
theorem dX6_step_5 : decode cX6_step 5 = .ok (.invokevirtual 67, 3) := by decide +kernel
theorem dX6_step_8 : decode cX6_step 8 = .ok (.ireturn, 1) := by decide +kernel
theorem dX6_boundary_0 : decode cX6_boundary 0 = .ok (.aload_n 0, 1) := by decide +kernel
theorem dX6_boundary_1 : decode cX6_boundary 1 = .ok (.bipush 8, 2) := by decide +kernel
theorem dX6_boundary_3 : decode cX6_boundary 3 = .ok (.invokevirtual 57, 3) := by decide +kernel
theorem dX6_boundary_6 : decode cX6_boundary 6 = .ok (.ifCond .le 24, 3) := by decide +kernel
theorem dX6_boundary_9 : decode cX6_boundary 9 = .ok (.aload_n 0, 1) := by decide +kernel
theorem dX6_boundary_10 : decode cX6_boundary 10 = .ok (.iconst 0, 1) := by decide +kernel
theorem dX6_boundary_11 : decode cX6_boundary 11 = .ok (.iconst 0, 1) := by decide +kernel
theorem dX6_boundary_12 : decode cX6_boundary 12 = .ok (.invokevirtual 88, 3) := by decide +kernel
theorem dX6_boundary_15 : decode cX6_boundary 15 = .ok (.sipush 255, 3) := by decide +kernel
theorem dX6_boundary_18 : decode cX6_boundary 18 = .ok (.if_icmp .ne 12, 3) := by decide +kernel
theorem dX6_boundary_21 : decode cX6_boundary 21 = .ok (.aload_n 0, 1) := by decide +kernel
theorem dX6_boundary_22 : decode cX6_boundary 22 = .ok (.iconst 0, 1) := by decide +kernel
theorem dX6_boundary_23 : decode cX6_boundary 23 = .ok (.iconst 1, 1) := by decide +kernel
theorem dX6_boundary_24 : decode cX6_boundary 24 = .ok (.invokevirtual 88, 3) := by decide +kernel
theorem dX6_boundary_27 : decode cX6_boundary 27 = .ok (.goto 4, 3) := by decide +kernel
theorem dX6_boundary_30 : decode cX6_boundary 30 = .ok (.iconst (-1), 1) := by decide +kernel
theorem dX6_boundary_31 : decode cX6_boundary 31 = .ok (.ireturn, 1) := by decide +kernel
theorem dX6_goodStep_0 : decode cX6_goodStep 0 = .ok (.aload_n 0, 1) := by decide +kernel
theorem dX6_goodStep_1 : decode cX6_goodStep 1 = .ok (.iload_n 1, 1) := by decide +kernel
theorem dX6_goodStep_2 : decode cX6_goodStep 2 = .ok (.iconst 0, 1) := by decide +kernel
theorem dX6_goodStep_3 : decode cX6_goodStep 3 = .ok (.invokevirtual 88, 3) := by decide +kernel
theorem dX6_goodStep_6 : decode cX6_goodStep 6 = .ok (.istore_n 2, 1) := by decide +kernel
theorem dX6_goodStep_7 : decode cX6_goodStep 7 = .ok (.aload_n 0, 1) := by decide +kernel
theorem dX6_goodStep_8 : decode cX6_goodStep 8 = .ok (.iload_n 1, 1) := by decide +kernel
theorem dX6_goodStep_9 : decode cX6_goodStep 9 = .ok (.iconst 1, 1) := by decide +kernel
theorem dX6_goodStep_10 : decode cX6_goodStep 10 = .ok (.invokevirtual 88, 3) := by decide +kernel
theorem dX6_goodStep_13 : decode cX6_goodStep 13 = .ok (.istore_n 3, 1) := by decide +kernel
theorem dX6_goodStep_14 : decode cX6_goodStep 14 = .ok (.aload_n 0, 1) := by decide +kernel
theorem dX6_goodStep_15 : decode cX6_goodStep 15 = .ok (.iload_n 1, 1) := by decide +kernel
theorem dX6_goodStep_16 : decode cX6_goodStep 16 = .ok (.iconst 2, 1) := by decide +kernel
theorem dX6_goodStep_17 : decode cX6_goodStep 17 = .ok (.invokevirtual 88, 3) := by decide +kernel
theorem dX6_goodStep_20 : decode cX6_goodStep 20 = .ok (.istore 4, 2) := by decide +kernel
theorem dX6_goodStep_22 : decode cX6_goodStep 22 = .ok (.aload_n 0, 1) := by decide +kernel
theorem dX6_goodStep_23 : decode cX6_goodStep 23 = .ok (.iload_n 1, 1) := by decide +kernel
theorem dX6_goodStep_24 : decode cX6_goodStep 24 = .ok (.iconst 3, 1) := by decide +kernel
theorem dX6_goodStep_25 : decode cX6_goodStep 25 = .ok (.invokevirtual 88, 3) := by decide +kernel
theorem dX6_goodStep_28 : decode cX6_goodStep 28 = .ok (.istore 5, 2) := by decide +kernel
theorem dX6_goodStep_30 : decode cX6_goodStep 30 = .ok (.iload_n 2, 1) := by decide +kernel
theorem dX6_goodStep_31 : decode cX6_goodStep 31 = .ok (.sipush 128, 3) := by decide +kernel
theorem dX6_goodStep_34 : decode cX6_goodStep 34 = .ok (.if_icmp .le 27, 3) := by decide +kernel
theorem dX6_goodStep_37 : decode cX6_goodStep 37 = .ok (.sipush 256, 3) := by decide +kernel
theorem dX6_goodStep_40 : decode cX6_goodStep 40 = .ok (.iload 4, 2) := by decide +kernel
theorem dX6_goodStep_42 : decode cX6_goodStep 42 = .ok (.imul, 1) := by decide +kernel
theorem dX6_goodStep_43 : decode cX6_goodStep 43 = .ok (.iload 5, 2) := by decide +kernel
theorem dX6_goodStep_45 : decode cX6_goodStep 45 = .ok (.iadd, 1) := by decide +kernel
theorem dX6_goodStep_46 : decode cX6_goodStep 46 = .ok (.aload_n 0, 1) := by decide +kernel
theorem dX6_goodStep_47 : decode cX6_goodStep 47 = .ok (.bipush 8, 2) := by decide +kernel
theorem dX6_goodStep_49 : decode cX6_goodStep 49 = .ok (.invokevirtual 57, 3) := by decide +kernel
theorem dX6_goodStep_52 : decode cX6_goodStep 52 = .ok (.if_icmp .ge 7, 3) := by decide +kernel
theorem dX6_goodStep_55 : decode cX6_goodStep 55 = .ok (.iconst 1, 1) := by decide +kernel
theorem dX6_goodStep_56 : decode cX6_goodStep 56 = .ok (.goto 4, 3) := by decide +kernel
theorem dX6_goodStep_59 : decode cX6_goodStep 59 = .ok (.iconst 0, 1) := by decide +kernel
theorem dX6_goodStep_60 : decode cX6_goodStep 60 = .ok (.ireturn, 1) := by decide +kernel
theorem dX6_goodStep_61 : decode cX6_goodStep 61 = .ok (.aload_n 0, 1) := by decide +kernel
theorem dX6_goodStep_62 : decode cX6_goodStep 62 = .ok (.iload_n 3, 1) := by decide +kernel
theorem dX6_goodStep_63 : decode cX6_goodStep 63 = .ok (.invokevirtual 76, 3) := by decide +kernel
theorem dX6_goodStep_66 : decode cX6_goodStep 66 = .ok (.ifCond .ne 11, 3) := by decide +kernel
theorem dX6_goodStep_69 : decode cX6_goodStep 69 = .ok (.iload_n 3, 1) := by decide +kernel
theorem dX6_goodStep_70 : decode cX6_goodStep 70 = .ok (.aload_n 0, 1) := by decide +kernel
theorem dX6_goodStep_71 : decode cX6_goodStep 71 = .ok (.invokevirtual 91, 3) := by decide +kernel
theorem dX6_goodStep_74 : decode cX6_goodStep 74 = .ok (.if_icmp .ne 28, 3) := by decide +kernel
theorem dX6_goodStep_77 : decode cX6_goodStep 77 = .ok (.iload_n 2, 1) := by decide +kernel
theorem dX6_goodStep_78 : decode cX6_goodStep 78 = .ok (.sipush 128, 3) := by decide +kernel
theorem dX6_goodStep_81 : decode cX6_goodStep 81 = .ok (.if_icmp .eq 17, 3) := by decide +kernel
theorem dX6_goodStep_84 : decode cX6_goodStep 84 = .ok (.iload_n 1, 1) := by decide +kernel
theorem dX6_goodStep_85 : decode cX6_goodStep 85 = .ok (.iload_n 2, 1) := by decide +kernel
theorem dX6_goodStep_86 : decode cX6_goodStep 86 = .ok (.iadd, 1) := by decide +kernel
theorem dX6_goodStep_87 : decode cX6_goodStep 87 = .ok (.iconst 1, 1) := by decide +kernel
theorem dX6_goodStep_88 : decode cX6_goodStep 88 = .ok (.iadd, 1) := by decide +kernel
theorem dX6_goodStep_89 : decode cX6_goodStep 89 = .ok (.aload_n 0, 1) := by decide +kernel
theorem dX6_goodStep_90 : decode cX6_goodStep 90 = .ok (.bipush 8, 2) := by decide +kernel
theorem dX6_goodStep_92 : decode cX6_goodStep 92 = .ok (.invokevirtual 57, 3) := by decide +kernel
theorem dX6_goodStep_95 : decode cX6_goodStep 95 = .ok (.if_icmp .ge 7, 3) := by decide +kernel
theorem dX6_goodStep_98 : decode cX6_goodStep 98 = .ok (.iconst 1, 1) := by decide +kernel
theorem dX6_goodStep_99 : decode cX6_goodStep 99 = .ok (.goto 4, 3) := by decide +kernel
theorem dX6_goodStep_102 : decode cX6_goodStep 102 = .ok (.iconst 0, 1) := by decide +kernel
theorem dX6_goodStep_103 : decode cX6_goodStep 103 = .ok (.istore 6, 2) := by decide +kernel
theorem dX6_goodStep_105 : decode cX6_goodStep 105 = .ok (.iload 4, 2) := by decide +kernel
theorem dX6_goodStep_107 : decode cX6_goodStep 107 = .ok (.bipush 127, 2) := by decide +kernel
theorem dX6_goodStep_109 : decode cX6_goodStep 109 = .ok (.if_icmp .le 36, 3) := by decide +kernel
theorem dX6_goodStep_112 : decode cX6_goodStep 112 = .ok (.iload 6, 2) := by decide +kernel
theorem dX6_goodStep_114 : decode cX6_goodStep 114 = .ok (.ifCond .eq 29, 3) := by decide +kernel
theorem dX6_goodStep_117 : decode cX6_goodStep 117 = .ok (.sipush 256, 3) := by decide +kernel
theorem dX6_goodStep_120 : decode cX6_goodStep 120 = .ok (.iload 4, 2) := by decide +kernel
theorem dX6_goodStep_122 : decode cX6_goodStep 122 = .ok (.sipush 128, 3) := by decide +kernel
theorem dX6_goodStep_125 : decode cX6_goodStep 125 = .ok (.isub, 1) := by decide +kernel
theorem dX6_goodStep_126 : decode cX6_goodStep 126 = .ok (.imul, 1) := by decide +kernel
theorem dX6_goodStep_127 : decode cX6_goodStep 127 = .ok (.iload 5, 2) := by decide +kernel
theorem dX6_goodStep_129 : decode cX6_goodStep 129 = .ok (.iadd, 1) := by decide +kernel
theorem dX6_goodStep_130 : decode cX6_goodStep 130 = .ok (.aload_n 0, 1) := by decide +kernel
theorem dX6_goodStep_131 : decode cX6_goodStep 131 = .ok (.bipush 9, 2) := by decide +kernel
theorem dX6_goodStep_133 : decode cX6_goodStep 133 = .ok (.invokevirtual 57, 3) := by decide +kernel
theorem dX6_goodStep_136 : decode cX6_goodStep 136 = .ok (.if_icmp .ge 7, 3) := by decide +kernel
theorem dX6_goodStep_139 : decode cX6_goodStep 139 = .ok (.iconst 1, 1) := by decide +kernel
theorem dX6_goodStep_140 : decode cX6_goodStep 140 = .ok (.goto 4, 3) := by decide +kernel
theorem dX6_goodStep_143 : decode cX6_goodStep 143 = .ok (.iconst 0, 1) := by decide +kernel
theorem dX6_goodStep_144 : decode cX6_goodStep 144 = .ok (.ireturn, 1) := by decide +kernel
theorem dX6_goodStep_145 : decode cX6_goodStep 145 = .ok (.iload 6, 2) := by decide +kernel
theorem dX6_goodStep_147 : decode cX6_goodStep 147 = .ok (.ifCond .eq 42, 3) := by decide +kernel
theorem dX6_goodStep_150 : decode cX6_goodStep 150 = .ok (.aload_n 0, 1) := by decide +kernel
theorem dX6_goodStep_151 : decode cX6_goodStep 151 = .ok (.iload 5, 2) := by decide +kernel
theorem dX6_goodStep_153 : decode cX6_goodStep 153 = .ok (.invokevirtual 76, 3) := by decide +kernel
theorem dX6_goodStep_156 : decode cX6_goodStep 156 = .ok (.ifCond .eq 33, 3) := by decide +kernel
theorem dX6_goodStep_159 : decode cX6_goodStep 159 = .ok (.iload 4, 2) := by decide +kernel
theorem dX6_goodStep_161 : decode cX6_goodStep 161 = .ok (.iconst 4, 1) := by decide +kernel
theorem dX6_goodStep_162 : decode cX6_goodStep 162 = .ok (.if_icmp .lt 23, 3) := by decide +kernel
theorem dX6_goodStep_165 : decode cX6_goodStep 165 = .ok (.iload 4, 2) := by decide +kernel
theorem dX6_goodStep_167 : decode cX6_goodStep 167 = .ok (.iconst 4, 1) := by decide +kernel
theorem dX6_goodStep_168 : decode cX6_goodStep 168 = .ok (.if_icmp .le 10, 3) := by decide +kernel
theorem dX6_goodStep_171 : decode cX6_goodStep 171 = .ok (.iload 4, 2) := by decide +kernel
theorem dX6_goodStep_173 : decode cX6_goodStep 173 = .ok (.bipush 8, 2) := by decide +kernel
theorem dX6_goodStep_175 : decode cX6_goodStep 175 = .ok (.if_icmp .lt 10, 3) := by decide +kernel
theorem dX6_goodStep_178 : decode cX6_goodStep 178 = .ok (.iload 4, 2) := by decide +kernel
theorem dX6_goodStep_180 : decode cX6_goodStep 180 = .ok (.bipush 11, 2) := by decide +kernel
theorem dX6_goodStep_182 : decode cX6_goodStep 182 = .ok (.if_icmp .ne 7, 3) := by decide +kernel
theorem dX6_goodStep_185 : decode cX6_goodStep 185 = .ok (.iconst 1, 1) := by decide +kernel
theorem dX6_goodStep_186 : decode cX6_goodStep 186 = .ok (.goto 4, 3) := by decide +kernel
theorem dX6_goodStep_189 : decode cX6_goodStep 189 = .ok (.iconst 0, 1) := by decide +kernel
theorem dX6_goodStep_190 : decode cX6_goodStep 190 = .ok (.ireturn, 1) := by decide +kernel
theorem dX6_goodPiece_0 : decode cX6_goodPiece 0 = .ok (.aload_n 0, 1) := by decide +kernel
theorem dX6_goodPiece_1 : decode cX6_goodPiece 1 = .ok (.aload_n 0, 1) := by decide +kernel
theorem dX6_goodPiece_2 : decode cX6_goodPiece 2 = .ok (.bipush 8, 2) := by decide +kernel
theorem dX6_goodPiece_4 : decode cX6_goodPiece 4 = .ok (.iload_n 1, 1) := by decide +kernel
theorem dX6_goodPiece_5 : decode cX6_goodPiece 5 = .ok (.iconst 3, 1) := by decide +kernel
theorem dX6_goodPiece_6 : decode cX6_goodPiece 6 = .ok (.invokevirtual 67, 3) := by decide +kernel
theorem dX6_goodPiece_9 : decode cX6_goodPiece 9 = .ok (.invokevirtual 76, 3) := by decide +kernel
theorem dX6_goodPiece_12 : decode cX6_goodPiece 12 = .ok (.istore_n 2, 1) := by decide +kernel
theorem dX6_goodPiece_13 : decode cX6_goodPiece 13 = .ok (.iconst 0, 1) := by decide +kernel
theorem dX6_goodPiece_14 : decode cX6_goodPiece 14 = .ok (.istore_n 3, 1) := by decide +kernel
theorem dX6_goodPiece_15 : decode cX6_goodPiece 15 = .ok (.iload_n 3, 1) := by decide +kernel
theorem dX6_goodPiece_16 : decode cX6_goodPiece 16 = .ok (.iconst 3, 1) := by decide +kernel
theorem dX6_goodPiece_17 : decode cX6_goodPiece 17 = .ok (.if_icmp .ge 45, 3) := by decide +kernel
theorem dX6_goodPiece_20 : decode cX6_goodPiece 20 = .ok (.iload_n 2, 1) := by decide +kernel
theorem dX6_goodPiece_21 : decode cX6_goodPiece 21 = .ok (.ifCond .eq 33, 3) := by decide +kernel
theorem dX6_goodPiece_24 : decode cX6_goodPiece 24 = .ok (.aload_n 0, 1) := by decide +kernel
theorem dX6_goodPiece_25 : decode cX6_goodPiece 25 = .ok (.bipush 8, 2) := by decide +kernel
theorem dX6_goodPiece_27 : decode cX6_goodPiece 27 = .ok (.iload_n 1, 1) := by decide +kernel
theorem dX6_goodPiece_28 : decode cX6_goodPiece 28 = .ok (.iload_n 3, 1) := by decide +kernel
theorem dX6_goodPiece_29 : decode cX6_goodPiece 29 = .ok (.invokevirtual 67, 3) := by decide +kernel
theorem dX6_goodPiece_32 : decode cX6_goodPiece 32 = .ok (.ifCond .eq 18, 3) := by decide +kernel
theorem dX6_goodPiece_35 : decode cX6_goodPiece 35 = .ok (.aload_n 0, 1) := by decide +kernel
theorem dX6_goodPiece_36 : decode cX6_goodPiece 36 = .ok (.aload_n 0, 1) := by decide +kernel
theorem dX6_goodPiece_37 : decode cX6_goodPiece 37 = .ok (.bipush 8, 2) := by decide +kernel
theorem dX6_goodPiece_39 : decode cX6_goodPiece 39 = .ok (.iload_n 1, 1) := by decide +kernel
theorem dX6_goodPiece_40 : decode cX6_goodPiece 40 = .ok (.iload_n 3, 1) := by decide +kernel
theorem dX6_goodPiece_41 : decode cX6_goodPiece 41 = .ok (.invokevirtual 67, 3) := by decide +kernel
theorem dX6_goodPiece_44 : decode cX6_goodPiece 44 = .ok (.invokevirtual 76, 3) := by decide +kernel
theorem dX6_goodPiece_47 : decode cX6_goodPiece 47 = .ok (.ifCond .eq 7, 3) := by decide +kernel
theorem dX6_goodPiece_50 : decode cX6_goodPiece 50 = .ok (.iconst 1, 1) := by decide +kernel
theorem dX6_goodPiece_51 : decode cX6_goodPiece 51 = .ok (.goto 4, 3) := by decide +kernel
theorem dX6_goodPiece_54 : decode cX6_goodPiece 54 = .ok (.iconst 0, 1) := by decide +kernel
theorem dX6_goodPiece_55 : decode cX6_goodPiece 55 = .ok (.istore_n 2, 1) := by decide +kernel
theorem dX6_goodPiece_56 : decode cX6_goodPiece 56 = .ok (.iinc 3 1, 3) := by decide +kernel
theorem dX6_goodPiece_59 : decode cX6_goodPiece 59 = .ok (.goto (-44), 3) := by decide +kernel
theorem dX6_goodPiece_62 : decode cX6_goodPiece 62 = .ok (.iload_n 2, 1) := by decide +kernel
theorem dX6_goodPiece_63 : decode cX6_goodPiece 63 = .ok (.ireturn, 1) := by decide +kernel
theorem dX6_program_0 : decode cX6_program 0 = .ok (.aload_n 0, 1) := by decide +kernel
theorem dX6_program_1 : decode cX6_program 1 = .ok (.bipush 8, 2) := by decide +kernel
theorem dX6_program_3 : decode cX6_program 3 = .ok (.invokevirtual 57, 3) := by decide +kernel
theorem dX6_program_6 : decode cX6_program 6 = .ok (.iconst 1, 1) := by decide +kernel
theorem dX6_program_7 : decode cX6_program 7 = .ok (.isub, 1) := by decide +kernel
theorem dX6_program_8 : decode cX6_program 8 = .ok (.istore_n 2, 1) := by decide +kernel
theorem dX6_program_9 : decode cX6_program 9 = .ok (.iconst (-1), 1) := by decide +kernel
theorem dX6_program_10 : decode cX6_program 10 = .ok (.istore_n 3, 1) := by decide +kernel
theorem dX6_program_11 : decode cX6_program 11 = .ok (.iconst 0, 1) := by decide +kernel
theorem dX6_program_12 : decode cX6_program 12 = .ok (.istore 4, 2) := by decide +kernel
theorem dX6_program_14 : decode cX6_program 14 = .ok (.iload_n 1, 1) := by decide +kernel
theorem dX6_program_15 : decode cX6_program 15 = .ok (.sipush 256, 3) := by decide +kernel
theorem dX6_program_18 : decode cX6_program 18 = .ok (.if_icmp .ne 42, 3) := by decide +kernel
theorem dX6_program_21 : decode cX6_program 21 = .ok (.iload_n 2, 1) := by decide +kernel
theorem dX6_program_22 : decode cX6_program 22 = .ok (.ifCond .lt 15, 3) := by decide +kernel
theorem dX6_program_25 : decode cX6_program 25 = .ok (.aload_n 0, 1) := by decide +kernel
theorem dX6_program_26 : decode cX6_program 26 = .ok (.iload_n 2, 1) := by decide +kernel
theorem dX6_program_27 : decode cX6_program 27 = .ok (.iconst 0, 1) := by decide +kernel
theorem dX6_program_28 : decode cX6_program 28 = .ok (.invokevirtual 88, 3) := by decide +kernel
theorem dX6_program_31 : decode cX6_program 31 = .ok (.sipush 255, 3) := by decide +kernel
theorem dX6_program_34 : decode cX6_program 34 = .ok (.if_icmp .eq 5, 3) := by decide +kernel
theorem dX6_program_37 : decode cX6_program 37 = .ok (.iconst (-1), 1) := by decide +kernel
theorem dX6_program_38 : decode cX6_program 38 = .ok (.ireturn, 1) := by decide +kernel
theorem dX6_program_39 : decode cX6_program 39 = .ok (.sipush 256, 3) := by decide +kernel
theorem dX6_program_42 : decode cX6_program 42 = .ok (.aload_n 0, 1) := by decide +kernel
theorem dX6_program_43 : decode cX6_program 43 = .ok (.iload_n 2, 1) := by decide +kernel
theorem dX6_program_44 : decode cX6_program 44 = .ok (.iconst 2, 1) := by decide +kernel
theorem dX6_program_45 : decode cX6_program 45 = .ok (.invokevirtual 88, 3) := by decide +kernel
theorem dX6_program_48 : decode cX6_program 48 = .ok (.imul, 1) := by decide +kernel
theorem dX6_program_49 : decode cX6_program 49 = .ok (.aload_n 0, 1) := by decide +kernel
theorem dX6_program_50 : decode cX6_program 50 = .ok (.iload_n 2, 1) := by decide +kernel
theorem dX6_program_51 : decode cX6_program 51 = .ok (.iconst 3, 1) := by decide +kernel
theorem dX6_program_52 : decode cX6_program 52 = .ok (.invokevirtual 88, 3) := by decide +kernel
theorem dX6_program_55 : decode cX6_program 55 = .ok (.iadd, 1) := by decide +kernel
theorem dX6_program_56 : decode cX6_program 56 = .ok (.istore_n 3, 1) := by decide +kernel
theorem dX6_program_57 : decode cX6_program 57 = .ok (.goto 66, 3) := by decide +kernel
theorem dX6_program_60 : decode cX6_program 60 = .ok (.aload_n 0, 1) := by decide +kernel
theorem dX6_program_61 : decode cX6_program 61 = .ok (.iload_n 1, 1) := by decide +kernel
theorem dX6_program_62 : decode cX6_program 62 = .ok (.invokevirtual 76, 3) := by decide +kernel
theorem dX6_program_65 : decode cX6_program 65 = .ok (.ifCond .eq 15, 3) := by decide +kernel
theorem dX6_program_68 : decode cX6_program 68 = .ok (.aload_n 0, 1) := by decide +kernel
theorem dX6_program_69 : decode cX6_program 69 = .ok (.iload_n 1, 1) := by decide +kernel
theorem dX6_program_70 : decode cX6_program 70 = .ok (.iconst 2, 1) := by decide +kernel
theorem dX6_program_71 : decode cX6_program 71 = .ok (.invokevirtual 71, 3) := by decide +kernel
theorem dX6_program_74 : decode cX6_program 74 = .ok (.iconst 4, 1) := by decide +kernel
theorem dX6_program_75 : decode cX6_program 75 = .ok (.irem, 1) := by decide +kernel
theorem dX6_program_76 : decode cX6_program 76 = .ok (.iconst 1, 1) := by decide +kernel
theorem dX6_program_77 : decode cX6_program 77 = .ok (.if_icmp .eq 5, 3) := by decide +kernel
theorem dX6_program_80 : decode cX6_program 80 = .ok (.iconst (-1), 1) := by decide +kernel
theorem dX6_program_81 : decode cX6_program 81 = .ok (.ireturn, 1) := by decide +kernel
theorem dX6_program_82 : decode cX6_program 82 = .ok (.aload_n 0, 1) := by decide +kernel
theorem dX6_program_83 : decode cX6_program 83 = .ok (.iload_n 1, 1) := by decide +kernel
theorem dX6_program_84 : decode cX6_program 84 = .ok (.iconst 3, 1) := by decide +kernel
theorem dX6_program_85 : decode cX6_program 85 = .ok (.invokevirtual 71, 3) := by decide +kernel
theorem dX6_program_88 : decode cX6_program 88 = .ok (.istore_n 3, 1) := by decide +kernel
theorem dX6_program_89 : decode cX6_program 89 = .ok (.aload_n 0, 1) := by decide +kernel
theorem dX6_program_90 : decode cX6_program 90 = .ok (.iload_n 3, 1) := by decide +kernel
theorem dX6_program_91 : decode cX6_program 91 = .ok (.iconst 0, 1) := by decide +kernel
theorem dX6_program_92 : decode cX6_program 92 = .ok (.invokevirtual 88, 3) := by decide +kernel
theorem dX6_program_95 : decode cX6_program 95 = .ok (.sipush 128, 3) := by decide +kernel
theorem dX6_program_98 : decode cX6_program 98 = .ok (.if_icmp .le 23, 3) := by decide +kernel
theorem dX6_program_101 : decode cX6_program 101 = .ok (.sipush 256, 3) := by decide +kernel
theorem dX6_program_104 : decode cX6_program 104 = .ok (.aload_n 0, 1) := by decide +kernel
theorem dX6_program_105 : decode cX6_program 105 = .ok (.iload_n 3, 1) := by decide +kernel
theorem dX6_program_106 : decode cX6_program 106 = .ok (.iconst 2, 1) := by decide +kernel
theorem dX6_program_107 : decode cX6_program 107 = .ok (.invokevirtual 88, 3) := by decide +kernel
theorem dX6_program_110 : decode cX6_program 110 = .ok (.imul, 1) := by decide +kernel
theorem dX6_program_111 : decode cX6_program 111 = .ok (.aload_n 0, 1) := by decide +kernel
theorem dX6_program_112 : decode cX6_program 112 = .ok (.iload_n 3, 1) := by decide +kernel
theorem dX6_program_113 : decode cX6_program 113 = .ok (.iconst 3, 1) := by decide +kernel
theorem dX6_program_114 : decode cX6_program 114 = .ok (.invokevirtual 88, 3) := by decide +kernel
theorem dX6_program_117 : decode cX6_program 117 = .ok (.iadd, 1) := by decide +kernel
theorem dX6_program_118 : decode cX6_program 118 = .ok (.goto 4, 3) := by decide +kernel
theorem dX6_program_121 : decode cX6_program 121 = .ok (.iload_n 3, 1) := by decide +kernel
theorem dX6_program_122 : decode cX6_program 122 = .ok (.istore_n 3, 1) := by decide +kernel
theorem dX6_program_123 : decode cX6_program 123 = .ok (.aload_n 0, 1) := by decide +kernel
theorem dX6_program_124 : decode cX6_program 124 = .ok (.iload_n 3, 1) := by decide +kernel
theorem dX6_program_125 : decode cX6_program 125 = .ok (.iconst 0, 1) := by decide +kernel
theorem dX6_program_126 : decode cX6_program 126 = .ok (.invokevirtual 88, 3) := by decide +kernel
theorem dX6_program_129 : decode cX6_program 129 = .ok (.sipush 128, 3) := by decide +kernel
theorem dX6_program_132 : decode cX6_program 132 = .ok (.if_icmp .le 7, 3) := by decide +kernel
theorem dX6_program_135 : decode cX6_program 135 = .ok (.iconst (-1), 1) := by decide +kernel
theorem dX6_program_136 : decode cX6_program 136 = .ok (.goto 4, 3) := by decide +kernel
theorem dX6_program_139 : decode cX6_program 139 = .ok (.iload_n 3, 1) := by decide +kernel
theorem dX6_program_140 : decode cX6_program 140 = .ok (.ireturn, 1) := by decide +kernel
theorem dX6_sought_0 : decode cX6_sought 0 = .ok (.aload_n 0, 1) := by decide +kernel
theorem dX6_sought_1 : decode cX6_sought 1 = .ok (.iload_n 1, 1) := by decide +kernel
theorem dX6_sought_2 : decode cX6_sought 2 = .ok (.invokevirtual 94, 3) := by decide +kernel
theorem dX6_sought_5 : decode cX6_sought 5 = .ok (.istore_n 3, 1) := by decide +kernel
theorem dX6_sought_6 : decode cX6_sought 6 = .ok (.iload_n 3, 1) := by decide +kernel
theorem dX6_sought_7 : decode cX6_sought 7 = .ok (.ifCond .lt 52, 3) := by decide +kernel
theorem dX6_sought_10 : decode cX6_sought 10 = .ok (.aload_n 0, 1) := by decide +kernel
theorem dX6_sought_11 : decode cX6_sought 11 = .ok (.iload_n 3, 1) := by decide +kernel
theorem dX6_sought_12 : decode cX6_sought 12 = .ok (.iconst 0, 1) := by decide +kernel
theorem dX6_sought_13 : decode cX6_sought 13 = .ok (.invokevirtual 88, 3) := by decide +kernel
theorem dX6_sought_16 : decode cX6_sought 16 = .ok (.istore 4, 2) := by decide +kernel
theorem dX6_sought_18 : decode cX6_sought 18 = .ok (.iload 4, 2) := by decide +kernel
theorem dX6_sought_20 : decode cX6_sought 20 = .ok (.sipush 129, 3) := by decide +kernel
theorem dX6_sought_23 : decode cX6_sought 23 = .ok (.if_icmp .ge 15, 3) := by decide +kernel
theorem dX6_sought_26 : decode cX6_sought 26 = .ok (.aload_n 0, 1) := by decide +kernel
theorem dX6_sought_27 : decode cX6_sought 27 = .ok (.iload_n 3, 1) := by decide +kernel
theorem dX6_sought_28 : decode cX6_sought 28 = .ok (.iconst 1, 1) := by decide +kernel
theorem dX6_sought_29 : decode cX6_sought 29 = .ok (.invokevirtual 88, 3) := by decide +kernel
theorem dX6_sought_32 : decode cX6_sought 32 = .ok (.iload_n 2, 1) := by decide +kernel
theorem dX6_sought_33 : decode cX6_sought 33 = .ok (.if_icmp .ne 5, 3) := by decide +kernel
theorem dX6_sought_36 : decode cX6_sought 36 = .ok (.iload_n 3, 1) := by decide +kernel
theorem dX6_sought_37 : decode cX6_sought 37 = .ok (.ireturn, 1) := by decide +kernel
theorem dX6_sought_38 : decode cX6_sought 38 = .ok (.iload 4, 2) := by decide +kernel
theorem dX6_sought_40 : decode cX6_sought 40 = .ok (.bipush 127, 2) := by decide +kernel
theorem dX6_sought_42 : decode cX6_sought 42 = .ok (.if_icmp .le 7, 3) := by decide +kernel
theorem dX6_sought_45 : decode cX6_sought 45 = .ok (.iconst (-1), 1) := by decide +kernel
theorem dX6_sought_46 : decode cX6_sought 46 = .ok (.goto 9, 3) := by decide +kernel
theorem dX6_sought_49 : decode cX6_sought 49 = .ok (.iload_n 3, 1) := by decide +kernel
theorem dX6_sought_50 : decode cX6_sought 50 = .ok (.iload 4, 2) := by decide +kernel
theorem dX6_sought_52 : decode cX6_sought 52 = .ok (.iadd, 1) := by decide +kernel
theorem dX6_sought_53 : decode cX6_sought 53 = .ok (.iconst 1, 1) := by decide +kernel
theorem dX6_sought_54 : decode cX6_sought 54 = .ok (.iadd, 1) := by decide +kernel
theorem dX6_sought_55 : decode cX6_sought 55 = .ok (.istore_n 3, 1) := by decide +kernel
theorem dX6_sought_56 : decode cX6_sought 56 = .ok (.goto (-50), 3) := by decide +kernel
theorem dX6_sought_59 : decode cX6_sought 59 = .ok (.iconst (-1), 1) := by decide +kernel
theorem dX6_sought_60 : decode cX6_sought 60 = .ok (.ireturn, 1) := by decide +kernel
theorem dX6_programs_0 : decode cX6_programs 0 = .ok (.iconst 0, 1) := by decide +kernel
theorem dX6_programs_1 : decode cX6_programs 1 = .ok (.istore_n 1, 1) := by decide +kernel
theorem dX6_programs_2 : decode cX6_programs 2 = .ok (.iload_n 1, 1) := by decide +kernel
theorem dX6_programs_3 : decode cX6_programs 3 = .ok (.sipush 256, 3) := by decide +kernel
theorem dX6_programs_6 : decode cX6_programs 6 = .ok (.if_icmp .gt 151, 3) := by decide +kernel
theorem dX6_programs_9 : decode cX6_programs 9 = .ok (.aload_n 0, 1) := by decide +kernel
theorem dX6_programs_10 : decode cX6_programs 10 = .ok (.iload_n 1, 1) := by decide +kernel
theorem dX6_programs_11 : decode cX6_programs 11 = .ok (.invokevirtual 94, 3) := by decide +kernel
theorem dX6_programs_14 : decode cX6_programs 14 = .ok (.istore_n 2, 1) := by decide +kernel
theorem dX6_programs_15 : decode cX6_programs 15 = .ok (.aload_n 0, 1) := by decide +kernel
theorem dX6_programs_16 : decode cX6_programs 16 = .ok (.getfield 27, 3) := by decide +kernel
theorem dX6_programs_19 : decode cX6_programs 19 = .ok (.iload_n 1, 1) := by decide +kernel
theorem dX6_programs_20 : decode cX6_programs 20 = .ok (.iload_n 2, 1) := by decide +kernel
theorem dX6_programs_21 : decode cX6_programs 21 = .ok (.ifCond .lt 7, 3) := by decide +kernel
theorem dX6_programs_24 : decode cX6_programs 24 = .ok (.iconst 1, 1) := by decide +kernel
theorem dX6_programs_25 : decode cX6_programs 25 = .ok (.goto 4, 3) := by decide +kernel
theorem dX6_programs_28 : decode cX6_programs 28 = .ok (.iconst 0, 1) := by decide +kernel
theorem dX6_programs_29 : decode cX6_programs 29 = .ok (.bastore, 1) := by decide +kernel
theorem dX6_programs_30 : decode cX6_programs 30 = .ok (.iconst 0, 1) := by decide +kernel
theorem dX6_programs_31 : decode cX6_programs 31 = .ok (.istore_n 3, 1) := by decide +kernel
theorem dX6_programs_32 : decode cX6_programs 32 = .ok (.iload_n 3, 1) := by decide +kernel
theorem dX6_programs_33 : decode cX6_programs 33 = .ok (.sipush 256, 3) := by decide +kernel
theorem dX6_programs_36 : decode cX6_programs 36 = .ok (.if_icmp .ge 44, 3) := by decide +kernel
theorem dX6_programs_39 : decode cX6_programs 39 = .ok (.aload_n 0, 1) := by decide +kernel
theorem dX6_programs_40 : decode cX6_programs 40 = .ok (.getfield 27, 3) := by decide +kernel
theorem dX6_programs_43 : decode cX6_programs 43 = .ok (.iload_n 1, 1) := by decide +kernel
theorem dX6_programs_44 : decode cX6_programs 44 = .ok (.baload, 1) := by decide +kernel
theorem dX6_programs_45 : decode cX6_programs 45 = .ok (.ifCond .eq 35, 3) := by decide +kernel
theorem dX6_programs_48 : decode cX6_programs 48 = .ok (.aload_n 0, 1) := by decide +kernel
theorem dX6_programs_49 : decode cX6_programs 49 = .ok (.getfield 21, 3) := by decide +kernel
theorem dX6_programs_52 : decode cX6_programs 52 = .ok (.sipush 256, 3) := by decide +kernel
theorem dX6_programs_55 : decode cX6_programs 55 = .ok (.iload_n 1, 1) := by decide +kernel
theorem dX6_programs_56 : decode cX6_programs 56 = .ok (.imul, 1) := by decide +kernel
theorem dX6_programs_57 : decode cX6_programs 57 = .ok (.iload_n 3, 1) := by decide +kernel
theorem dX6_programs_58 : decode cX6_programs 58 = .ok (.iadd, 1) := by decide +kernel
theorem dX6_programs_59 : decode cX6_programs 59 = .ok (.iconst 0, 1) := by decide +kernel
theorem dX6_programs_60 : decode cX6_programs 60 = .ok (.iastore, 1) := by decide +kernel
theorem dX6_programs_61 : decode cX6_programs 61 = .ok (.aload_n 0, 1) := by decide +kernel
theorem dX6_programs_62 : decode cX6_programs 62 = .ok (.getfield 24, 3) := by decide +kernel
theorem dX6_programs_65 : decode cX6_programs 65 = .ok (.sipush 256, 3) := by decide +kernel
theorem dX6_programs_68 : decode cX6_programs 68 = .ok (.iload_n 1, 1) := by decide +kernel
theorem dX6_programs_69 : decode cX6_programs 69 = .ok (.imul, 1) := by decide +kernel
theorem dX6_programs_70 : decode cX6_programs 70 = .ok (.iload_n 3, 1) := by decide +kernel
theorem dX6_programs_71 : decode cX6_programs 71 = .ok (.iadd, 1) := by decide +kernel
theorem dX6_programs_72 : decode cX6_programs 72 = .ok (.iconst 0, 1) := by decide +kernel
theorem dX6_programs_73 : decode cX6_programs 73 = .ok (.iastore, 1) := by decide +kernel
theorem dX6_programs_74 : decode cX6_programs 74 = .ok (.iinc 3 1, 3) := by decide +kernel
theorem dX6_programs_77 : decode cX6_programs 77 = .ok (.goto (-45), 3) := by decide +kernel
theorem dX6_programs_80 : decode cX6_programs 80 = .ok (.iload_n 2, 1) := by decide +kernel
theorem dX6_programs_81 : decode cX6_programs 81 = .ok (.ifCond .lt 70, 3) := by decide +kernel
theorem dX6_programs_84 : decode cX6_programs 84 = .ok (.aload_n 0, 1) := by decide +kernel
theorem dX6_programs_85 : decode cX6_programs 85 = .ok (.iload_n 2, 1) := by decide +kernel
theorem dX6_programs_86 : decode cX6_programs 86 = .ok (.iconst 0, 1) := by decide +kernel
theorem dX6_programs_87 : decode cX6_programs 87 = .ok (.invokevirtual 88, 3) := by decide +kernel
theorem dX6_programs_90 : decode cX6_programs 90 = .ok (.istore_n 3, 1) := by decide +kernel
theorem dX6_programs_91 : decode cX6_programs 91 = .ok (.sipush 256, 3) := by decide +kernel
theorem dX6_programs_94 : decode cX6_programs 94 = .ok (.iload_n 1, 1) := by decide +kernel
theorem dX6_programs_95 : decode cX6_programs 95 = .ok (.imul, 1) := by decide +kernel
theorem dX6_programs_96 : decode cX6_programs 96 = .ok (.aload_n 0, 1) := by decide +kernel
theorem dX6_programs_97 : decode cX6_programs 97 = .ok (.iload_n 2, 1) := by decide +kernel
theorem dX6_programs_98 : decode cX6_programs 98 = .ok (.iconst 1, 1) := by decide +kernel
theorem dX6_programs_99 : decode cX6_programs 99 = .ok (.invokevirtual 88, 3) := by decide +kernel
theorem dX6_programs_102 : decode cX6_programs 102 = .ok (.iadd, 1) := by decide +kernel
theorem dX6_programs_103 : decode cX6_programs 103 = .ok (.istore 4, 2) := by decide +kernel
theorem dX6_programs_105 : decode cX6_programs 105 = .ok (.iload_n 3, 1) := by decide +kernel
theorem dX6_programs_106 : decode cX6_programs 106 = .ok (.sipush 129, 3) := by decide +kernel
theorem dX6_programs_109 : decode cX6_programs 109 = .ok (.if_icmp .ge 23, 3) := by decide +kernel
theorem dX6_programs_112 : decode cX6_programs 112 = .ok (.aload_n 0, 1) := by decide +kernel
theorem dX6_programs_113 : decode cX6_programs 113 = .ok (.getfield 21, 3) := by decide +kernel
theorem dX6_programs_116 : decode cX6_programs 116 = .ok (.iload 4, 2) := by decide +kernel
theorem dX6_programs_118 : decode cX6_programs 118 = .ok (.iaload, 1) := by decide +kernel
theorem dX6_programs_119 : decode cX6_programs 119 = .ok (.ifCond .ne 13, 3) := by decide +kernel
theorem dX6_programs_122 : decode cX6_programs 122 = .ok (.aload_n 0, 1) := by decide +kernel
theorem dX6_programs_123 : decode cX6_programs 123 = .ok (.getfield 21, 3) := by decide +kernel
theorem dX6_programs_126 : decode cX6_programs 126 = .ok (.iload 4, 2) := by decide +kernel
theorem dX6_programs_128 : decode cX6_programs 128 = .ok (.iload_n 2, 1) := by decide +kernel
theorem dX6_programs_129 : decode cX6_programs 129 = .ok (.iconst 1, 1) := by decide +kernel
theorem dX6_programs_130 : decode cX6_programs 130 = .ok (.iadd, 1) := by decide +kernel
theorem dX6_programs_131 : decode cX6_programs 131 = .ok (.iastore, 1) := by decide +kernel
theorem dX6_programs_132 : decode cX6_programs 132 = .ok (.iload_n 3, 1) := by decide +kernel
theorem dX6_programs_133 : decode cX6_programs 133 = .ok (.bipush 127, 2) := by decide +kernel
theorem dX6_programs_135 : decode cX6_programs 135 = .ok (.if_icmp .le 7, 3) := by decide +kernel
theorem dX6_programs_138 : decode cX6_programs 138 = .ok (.iconst (-1), 1) := by decide +kernel
theorem dX6_programs_139 : decode cX6_programs 139 = .ok (.goto 8, 3) := by decide +kernel
theorem dX6_programs_142 : decode cX6_programs 142 = .ok (.iload_n 2, 1) := by decide +kernel
theorem dX6_programs_143 : decode cX6_programs 143 = .ok (.iload_n 3, 1) := by decide +kernel
theorem dX6_programs_144 : decode cX6_programs 144 = .ok (.iadd, 1) := by decide +kernel
theorem dX6_programs_145 : decode cX6_programs 145 = .ok (.iconst 1, 1) := by decide +kernel
theorem dX6_programs_146 : decode cX6_programs 146 = .ok (.iadd, 1) := by decide +kernel
theorem dX6_programs_147 : decode cX6_programs 147 = .ok (.istore_n 2, 1) := by decide +kernel
theorem dX6_programs_148 : decode cX6_programs 148 = .ok (.goto (-68), 3) := by decide +kernel
theorem dX6_programs_151 : decode cX6_programs 151 = .ok (.iinc 1 1, 3) := by decide +kernel
theorem dX6_programs_154 : decode cX6_programs 154 = .ok (.goto (-152), 3) := by decide +kernel
theorem dX6_programs_157 : decode cX6_programs 157 = .ok (.return_, 1) := by decide +kernel
theorem dX6_behind_0 : decode cX6_behind 0 = .ok (.aload_n 0, 1) := by decide +kernel
theorem dX6_behind_1 : decode cX6_behind 1 = .ok (.getfield 27, 3) := by decide +kernel
theorem dX6_behind_4 : decode cX6_behind 4 = .ok (.iload_n 1, 1) := by decide +kernel
theorem dX6_behind_5 : decode cX6_behind 5 = .ok (.baload, 1) := by decide +kernel
theorem dX6_behind_6 : decode cX6_behind 6 = .ok (.ifCond .eq 18, 3) := by decide +kernel
theorem dX6_behind_9 : decode cX6_behind 9 = .ok (.aload_n 0, 1) := by decide +kernel
theorem dX6_behind_10 : decode cX6_behind 10 = .ok (.getfield 21, 3) := by decide +kernel
theorem dX6_behind_13 : decode cX6_behind 13 = .ok (.sipush 256, 3) := by decide +kernel
theorem dX6_behind_16 : decode cX6_behind 16 = .ok (.iload_n 1, 1) := by decide +kernel
theorem dX6_behind_17 : decode cX6_behind 17 = .ok (.imul, 1) := by decide +kernel
theorem dX6_behind_18 : decode cX6_behind 18 = .ok (.iload_n 2, 1) := by decide +kernel
theorem dX6_behind_19 : decode cX6_behind 19 = .ok (.iadd, 1) := by decide +kernel
theorem dX6_behind_20 : decode cX6_behind 20 = .ok (.iaload, 1) := by decide +kernel
theorem dX6_behind_21 : decode cX6_behind 21 = .ok (.ifCond .ne 9, 3) := by decide +kernel
theorem dX6_behind_24 : decode cX6_behind 24 = .ok (.iload_n 2, 1) := by decide +kernel
theorem dX6_behind_25 : decode cX6_behind 25 = .ok (.iconst 1, 1) := by decide +kernel
theorem dX6_behind_26 : decode cX6_behind 26 = .ok (.iadd, 1) := by decide +kernel
theorem dX6_behind_27 : decode cX6_behind 27 = .ok (.goto 15, 3) := by decide +kernel
theorem dX6_behind_30 : decode cX6_behind 30 = .ok (.aload_n 0, 1) := by decide +kernel
theorem dX6_behind_31 : decode cX6_behind 31 = .ok (.getfield 24, 3) := by decide +kernel
theorem dX6_behind_34 : decode cX6_behind 34 = .ok (.sipush 256, 3) := by decide +kernel
theorem dX6_behind_37 : decode cX6_behind 37 = .ok (.iload_n 1, 1) := by decide +kernel
theorem dX6_behind_38 : decode cX6_behind 38 = .ok (.imul, 1) := by decide +kernel
theorem dX6_behind_39 : decode cX6_behind 39 = .ok (.iload_n 2, 1) := by decide +kernel
theorem dX6_behind_40 : decode cX6_behind 40 = .ok (.iadd, 1) := by decide +kernel
theorem dX6_behind_41 : decode cX6_behind 41 = .ok (.iaload, 1) := by decide +kernel
theorem dX6_behind_42 : decode cX6_behind 42 = .ok (.ireturn, 1) := by decide +kernel
theorem dX6_looked_0 : decode cX6_looked 0 = .ok (.aload_n 0, 1) := by decide +kernel
theorem dX6_looked_1 : decode cX6_looked 1 = .ok (.getfield 21, 3) := by decide +kernel
theorem dX6_looked_4 : decode cX6_looked 4 = .ok (.sipush 256, 3) := by decide +kernel
theorem dX6_looked_7 : decode cX6_looked 7 = .ok (.iload_n 1, 1) := by decide +kernel
theorem dX6_looked_8 : decode cX6_looked 8 = .ok (.imul, 1) := by decide +kernel
theorem dX6_looked_9 : decode cX6_looked 9 = .ok (.iload_n 2, 1) := by decide +kernel
theorem dX6_looked_10 : decode cX6_looked 10 = .ok (.iadd, 1) := by decide +kernel
theorem dX6_looked_11 : decode cX6_looked 11 = .ok (.iaload, 1) := by decide +kernel
theorem dX6_looked_12 : decode cX6_looked 12 = .ok (.iconst 1, 1) := by decide +kernel
theorem dX6_looked_13 : decode cX6_looked 13 = .ok (.isub, 1) := by decide +kernel
theorem dX6_looked_14 : decode cX6_looked 14 = .ok (.istore_n 3, 1) := by decide +kernel
theorem dX6_looked_15 : decode cX6_looked 15 = .ok (.aload_n 0, 1) := by decide +kernel
theorem dX6_looked_16 : decode cX6_looked 16 = .ok (.iload_n 3, 1) := by decide +kernel
theorem dX6_looked_17 : decode cX6_looked 17 = .ok (.iconst 2, 1) := by decide +kernel
theorem dX6_looked_18 : decode cX6_looked 18 = .ok (.invokevirtual 88, 3) := by decide +kernel
theorem dX6_looked_21 : decode cX6_looked 21 = .ok (.istore 4, 2) := by decide +kernel
theorem dX6_looked_23 : decode cX6_looked 23 = .ok (.aload_n 0, 1) := by decide +kernel
theorem dX6_looked_24 : decode cX6_looked 24 = .ok (.iload_n 3, 1) := by decide +kernel
theorem dX6_looked_25 : decode cX6_looked 25 = .ok (.iconst 3, 1) := by decide +kernel
theorem dX6_looked_26 : decode cX6_looked 26 = .ok (.invokevirtual 88, 3) := by decide +kernel
theorem dX6_looked_29 : decode cX6_looked 29 = .ok (.istore 5, 2) := by decide +kernel
theorem dX6_looked_31 : decode cX6_looked 31 = .ok (.iload 4, 2) := by decide +kernel
theorem dX6_looked_33 : decode cX6_looked 33 = .ok (.bipush 127, 2) := by decide +kernel
theorem dX6_looked_35 : decode cX6_looked 35 = .ok (.if_icmp .gt 16, 3) := by decide +kernel
theorem dX6_looked_38 : decode cX6_looked 38 = .ok (.iload 4, 2) := by decide +kernel
theorem dX6_looked_40 : decode cX6_looked 40 = .ok (.iconst 5, 1) := by decide +kernel
theorem dX6_looked_41 : decode cX6_looked 41 = .ok (.if_icmp .eq 10, 3) := by decide +kernel
theorem dX6_looked_44 : decode cX6_looked 44 = .ok (.iload 4, 2) := by decide +kernel
theorem dX6_looked_46 : decode cX6_looked 46 = .ok (.bipush 11, 2) := by decide +kernel
theorem dX6_looked_48 : decode cX6_looked 48 = .ok (.if_icmp .ne 7, 3) := by decide +kernel
theorem dX6_looked_51 : decode cX6_looked 51 = .ok (.iload_n 2, 1) := by decide +kernel
theorem dX6_looked_52 : decode cX6_looked 52 = .ok (.iconst 1, 1) := by decide +kernel
theorem dX6_looked_53 : decode cX6_looked 53 = .ok (.iadd, 1) := by decide +kernel
theorem dX6_looked_54 : decode cX6_looked 54 = .ok (.ireturn, 1) := by decide +kernel
theorem dX6_looked_55 : decode cX6_looked 55 = .ok (.iload 4, 2) := by decide +kernel
theorem dX6_looked_57 : decode cX6_looked 57 = .ok (.ifCond .eq 10, 3) := by decide +kernel
theorem dX6_looked_60 : decode cX6_looked 60 = .ok (.iload 4, 2) := by decide +kernel
theorem dX6_looked_62 : decode cX6_looked 62 = .ok (.bipush 6, 2) := by decide +kernel
theorem dX6_looked_64 : decode cX6_looked 64 = .ok (.if_icmp .ne 8, 3) := by decide +kernel
theorem dX6_looked_67 : decode cX6_looked 67 = .ok (.iload 5, 2) := by decide +kernel
theorem dX6_looked_69 : decode cX6_looked 69 = .ok (.iconst 1, 1) := by decide +kernel
theorem dX6_looked_70 : decode cX6_looked 70 = .ok (.iadd, 1) := by decide +kernel
theorem dX6_looked_71 : decode cX6_looked 71 = .ok (.ireturn, 1) := by decide +kernel
theorem dX6_looked_72 : decode cX6_looked 72 = .ok (.iload 4, 2) := by decide +kernel
theorem dX6_looked_74 : decode cX6_looked 74 = .ok (.iconst 1, 1) := by decide +kernel
theorem dX6_looked_75 : decode cX6_looked 75 = .ok (.if_icmp .eq 10, 3) := by decide +kernel
theorem dX6_looked_78 : decode cX6_looked 78 = .ok (.iload 4, 2) := by decide +kernel
theorem dX6_looked_80 : decode cX6_looked 80 = .ok (.bipush 7, 2) := by decide +kernel
theorem dX6_looked_82 : decode cX6_looked 82 = .ok (.if_icmp .ne 11, 3) := by decide +kernel
theorem dX6_looked_85 : decode cX6_looked 85 = .ok (.aload_n 0, 1) := by decide +kernel
theorem dX6_looked_86 : decode cX6_looked 86 = .ok (.iload 5, 2) := by decide +kernel
theorem dX6_looked_88 : decode cX6_looked 88 = .ok (.iload_n 2, 1) := by decide +kernel
theorem dX6_looked_89 : decode cX6_looked 89 = .ok (.invokevirtual 97, 3) := by decide +kernel
theorem dX6_looked_92 : decode cX6_looked 92 = .ok (.ireturn, 1) := by decide +kernel
theorem dX6_looked_93 : decode cX6_looked 93 = .ok (.aload_n 0, 1) := by decide +kernel
theorem dX6_looked_94 : decode cX6_looked 94 = .ok (.iload_n 1, 1) := by decide +kernel
theorem dX6_looked_95 : decode cX6_looked 95 = .ok (.iload 5, 2) := by decide +kernel
theorem dX6_looked_97 : decode cX6_looked 97 = .ok (.invokevirtual 97, 3) := by decide +kernel
theorem dX6_looked_100 : decode cX6_looked 100 = .ok (.istore 6, 2) := by decide +kernel
theorem dX6_looked_102 : decode cX6_looked 102 = .ok (.iload 4, 2) := by decide +kernel
theorem dX6_looked_104 : decode cX6_looked 104 = .ok (.iconst 2, 1) := by decide +kernel
theorem dX6_looked_105 : decode cX6_looked 105 = .ok (.if_icmp .eq 8, 3) := by decide +kernel
theorem dX6_looked_108 : decode cX6_looked 108 = .ok (.iload 6, 2) := by decide +kernel
theorem dX6_looked_110 : decode cX6_looked 110 = .ok (.ifCond .ne 8, 3) := by decide +kernel
theorem dX6_looked_113 : decode cX6_looked 113 = .ok (.iload 6, 2) := by decide +kernel
theorem dX6_looked_115 : decode cX6_looked 115 = .ok (.goto 12, 3) := by decide +kernel
theorem dX6_looked_118 : decode cX6_looked 118 = .ok (.aload_n 0, 1) := by decide +kernel
theorem dX6_looked_119 : decode cX6_looked 119 = .ok (.iload 6, 2) := by decide +kernel
theorem dX6_looked_121 : decode cX6_looked 121 = .ok (.iconst 1, 1) := by decide +kernel
theorem dX6_looked_122 : decode cX6_looked 122 = .ok (.isub, 1) := by decide +kernel
theorem dX6_looked_123 : decode cX6_looked 123 = .ok (.iload_n 2, 1) := by decide +kernel
theorem dX6_looked_124 : decode cX6_looked 124 = .ok (.invokevirtual 97, 3) := by decide +kernel
theorem dX6_looked_127 : decode cX6_looked 127 = .ok (.ireturn, 1) := by decide +kernel
theorem dX6_allEnd_0 : decode cX6_allEnd 0 = .ok (.aload_n 0, 1) := by decide +kernel
theorem dX6_allEnd_1 : decode cX6_allEnd 1 = .ok (.invokevirtual 100, 3) := by decide +kernel
theorem dX6_allEnd_4 : decode cX6_allEnd 4 = .ok (.iconst 1, 1) := by decide +kernel
theorem dX6_allEnd_5 : decode cX6_allEnd 5 = .ok (.istore_n 1, 1) := by decide +kernel
theorem dX6_allEnd_6 : decode cX6_allEnd 6 = .ok (.iconst 1, 1) := by decide +kernel
theorem dX6_allEnd_7 : decode cX6_allEnd 7 = .ok (.istore_n 2, 1) := by decide +kernel
theorem dX6_allEnd_8 : decode cX6_allEnd 8 = .ok (.iload_n 1, 1) := by decide +kernel
theorem dX6_allEnd_9 : decode cX6_allEnd 9 = .ok (.ifCond .eq 135, 3) := by decide +kernel
theorem dX6_allEnd_12 : decode cX6_allEnd 12 = .ok (.iconst 0, 1) := by decide +kernel
theorem dX6_allEnd_13 : decode cX6_allEnd 13 = .ok (.istore_n 1, 1) := by decide +kernel
theorem dX6_allEnd_14 : decode cX6_allEnd 14 = .ok (.iconst 1, 1) := by decide +kernel
theorem dX6_allEnd_15 : decode cX6_allEnd 15 = .ok (.istore_n 2, 1) := by decide +kernel
theorem dX6_allEnd_16 : decode cX6_allEnd 16 = .ok (.iconst 0, 1) := by decide +kernel
theorem dX6_allEnd_17 : decode cX6_allEnd 17 = .ok (.istore_n 3, 1) := by decide +kernel
theorem dX6_allEnd_18 : decode cX6_allEnd 18 = .ok (.iload_n 3, 1) := by decide +kernel
theorem dX6_allEnd_19 : decode cX6_allEnd 19 = .ok (.sipush 256, 3) := by decide +kernel
theorem dX6_allEnd_22 : decode cX6_allEnd 22 = .ok (.if_icmp .gt 119, 3) := by decide +kernel
theorem dX6_allEnd_25 : decode cX6_allEnd 25 = .ok (.iconst 0, 1) := by decide +kernel
theorem dX6_allEnd_26 : decode cX6_allEnd 26 = .ok (.istore 4, 2) := by decide +kernel
theorem dX6_allEnd_28 : decode cX6_allEnd 28 = .ok (.iload 4, 2) := by decide +kernel
theorem dX6_allEnd_30 : decode cX6_allEnd 30 = .ok (.sipush 256, 3) := by decide +kernel
theorem dX6_allEnd_33 : decode cX6_allEnd 33 = .ok (.if_icmp .ge 102, 3) := by decide +kernel
theorem dX6_allEnd_36 : decode cX6_allEnd 36 = .ok (.aload_n 0, 1) := by decide +kernel
theorem dX6_allEnd_37 : decode cX6_allEnd 37 = .ok (.getfield 27, 3) := by decide +kernel
theorem dX6_allEnd_40 : decode cX6_allEnd 40 = .ok (.iload_n 3, 1) := by decide +kernel
theorem dX6_allEnd_41 : decode cX6_allEnd 41 = .ok (.baload, 1) := by decide +kernel
theorem dX6_allEnd_42 : decode cX6_allEnd 42 = .ok (.ifCond .eq 93, 3) := by decide +kernel
theorem dX6_allEnd_45 : decode cX6_allEnd 45 = .ok (.sipush 256, 3) := by decide +kernel
theorem dX6_allEnd_48 : decode cX6_allEnd 48 = .ok (.iload_n 3, 1) := by decide +kernel
theorem dX6_allEnd_49 : decode cX6_allEnd 49 = .ok (.imul, 1) := by decide +kernel
theorem dX6_allEnd_50 : decode cX6_allEnd 50 = .ok (.iload 4, 2) := by decide +kernel
theorem dX6_allEnd_52 : decode cX6_allEnd 52 = .ok (.iadd, 1) := by decide +kernel
theorem dX6_allEnd_53 : decode cX6_allEnd 53 = .ok (.istore 5, 2) := by decide +kernel
theorem dX6_allEnd_55 : decode cX6_allEnd 55 = .ok (.aload_n 0, 1) := by decide +kernel
theorem dX6_allEnd_56 : decode cX6_allEnd 56 = .ok (.getfield 21, 3) := by decide +kernel
theorem dX6_allEnd_59 : decode cX6_allEnd 59 = .ok (.iload 5, 2) := by decide +kernel
theorem dX6_allEnd_61 : decode cX6_allEnd 61 = .ok (.iaload, 1) := by decide +kernel
theorem dX6_allEnd_62 : decode cX6_allEnd 62 = .ok (.ifCond .le 67, 3) := by decide +kernel
theorem dX6_allEnd_65 : decode cX6_allEnd 65 = .ok (.aload_n 0, 1) := by decide +kernel
theorem dX6_allEnd_66 : decode cX6_allEnd 66 = .ok (.getfield 24, 3) := by decide +kernel
theorem dX6_allEnd_69 : decode cX6_allEnd 69 = .ok (.iload 5, 2) := by decide +kernel
theorem dX6_allEnd_71 : decode cX6_allEnd 71 = .ok (.iaload, 1) := by decide +kernel
theorem dX6_allEnd_72 : decode cX6_allEnd 72 = .ok (.ifCond .ne 57, 3) := by decide +kernel
theorem dX6_allEnd_75 : decode cX6_allEnd 75 = .ok (.aload_n 0, 1) := by decide +kernel
theorem dX6_allEnd_76 : decode cX6_allEnd 76 = .ok (.getfield 24, 3) := by decide +kernel
theorem dX6_allEnd_79 : decode cX6_allEnd 79 = .ok (.iload 5, 2) := by decide +kernel
theorem dX6_allEnd_81 : decode cX6_allEnd 81 = .ok (.aload_n 0, 1) := by decide +kernel
theorem dX6_allEnd_82 : decode cX6_allEnd 82 = .ok (.iload_n 3, 1) := by decide +kernel
theorem dX6_allEnd_83 : decode cX6_allEnd 83 = .ok (.iload 4, 2) := by decide +kernel
theorem dX6_allEnd_85 : decode cX6_allEnd 85 = .ok (.invokevirtual 103, 3) := by decide +kernel
theorem dX6_allEnd_88 : decode cX6_allEnd 88 = .ok (.iastore, 1) := by decide +kernel
theorem dX6_allEnd_89 : decode cX6_allEnd 89 = .ok (.iload_n 1, 1) := by decide +kernel
theorem dX6_allEnd_90 : decode cX6_allEnd 90 = .ok (.ifCond .ne 13, 3) := by decide +kernel
theorem dX6_allEnd_93 : decode cX6_allEnd 93 = .ok (.aload_n 0, 1) := by decide +kernel
theorem dX6_allEnd_94 : decode cX6_allEnd 94 = .ok (.getfield 24, 3) := by decide +kernel
theorem dX6_allEnd_97 : decode cX6_allEnd 97 = .ok (.iload 5, 2) := by decide +kernel
theorem dX6_allEnd_99 : decode cX6_allEnd 99 = .ok (.iaload, 1) := by decide +kernel
theorem dX6_allEnd_100 : decode cX6_allEnd 100 = .ok (.ifCond .le 7, 3) := by decide +kernel
theorem dX6_allEnd_103 : decode cX6_allEnd 103 = .ok (.iconst 1, 1) := by decide +kernel
theorem dX6_allEnd_104 : decode cX6_allEnd 104 = .ok (.goto 4, 3) := by decide +kernel
theorem dX6_allEnd_107 : decode cX6_allEnd 107 = .ok (.iconst 0, 1) := by decide +kernel
theorem dX6_allEnd_108 : decode cX6_allEnd 108 = .ok (.istore_n 1, 1) := by decide +kernel
theorem dX6_allEnd_109 : decode cX6_allEnd 109 = .ok (.iload_n 2, 1) := by decide +kernel
theorem dX6_allEnd_110 : decode cX6_allEnd 110 = .ok (.ifCond .eq 17, 3) := by decide +kernel
theorem dX6_allEnd_113 : decode cX6_allEnd 113 = .ok (.aload_n 0, 1) := by decide +kernel
theorem dX6_allEnd_114 : decode cX6_allEnd 114 = .ok (.getfield 24, 3) := by decide +kernel
theorem dX6_allEnd_117 : decode cX6_allEnd 117 = .ok (.iload 5, 2) := by decide +kernel
theorem dX6_allEnd_119 : decode cX6_allEnd 119 = .ok (.iaload, 1) := by decide +kernel
theorem dX6_allEnd_120 : decode cX6_allEnd 120 = .ok (.ifCond .le 7, 3) := by decide +kernel
theorem dX6_allEnd_123 : decode cX6_allEnd 123 = .ok (.iconst 1, 1) := by decide +kernel
theorem dX6_allEnd_124 : decode cX6_allEnd 124 = .ok (.goto 4, 3) := by decide +kernel
theorem dX6_allEnd_127 : decode cX6_allEnd 127 = .ok (.iconst 0, 1) := by decide +kernel
theorem dX6_allEnd_128 : decode cX6_allEnd 128 = .ok (.istore_n 2, 1) := by decide +kernel
theorem dX6_allEnd_129 : decode cX6_allEnd 129 = .ok (.iinc 4 1, 3) := by decide +kernel
theorem dX6_allEnd_132 : decode cX6_allEnd 132 = .ok (.goto (-104), 3) := by decide +kernel
theorem dX6_allEnd_135 : decode cX6_allEnd 135 = .ok (.iinc 3 1, 3) := by decide +kernel
theorem dX6_allEnd_138 : decode cX6_allEnd 138 = .ok (.goto (-120), 3) := by decide +kernel
theorem dX6_allEnd_141 : decode cX6_allEnd 141 = .ok (.goto (-133), 3) := by decide +kernel
theorem dX6_allEnd_144 : decode cX6_allEnd 144 = .ok (.iload_n 2, 1) := by decide +kernel
theorem dX6_allEnd_145 : decode cX6_allEnd 145 = .ok (.ireturn, 1) := by decide +kernel
theorem dX6_faultOf_0 : decode cX6_faultOf 0 = .ok (.aload_n 0, 1) := by decide +kernel
theorem dX6_faultOf_1 : decode cX6_faultOf 1 = .ok (.invokevirtual 106, 3) := by decide +kernel
theorem dX6_faultOf_4 : decode cX6_faultOf 4 = .ok (.ifCond .ne 5, 3) := by decide +kernel
theorem dX6_faultOf_7 : decode cX6_faultOf 7 = .ok (.iconst 1, 1) := by decide +kernel
theorem dX6_faultOf_8 : decode cX6_faultOf 8 = .ok (.ireturn, 1) := by decide +kernel
theorem dX6_faultOf_9 : decode cX6_faultOf 9 = .ok (.aload_n 0, 1) := by decide +kernel
theorem dX6_faultOf_10 : decode cX6_faultOf 10 = .ok (.bipush 7, 2) := by decide +kernel
theorem dX6_faultOf_12 : decode cX6_faultOf 12 = .ok (.invokevirtual 83, 3) := by decide +kernel
theorem dX6_faultOf_15 : decode cX6_faultOf 15 = .ok (.ldc 110, 2) := by decide +kernel
theorem dX6_faultOf_17 : decode cX6_faultOf 17 = .ok (.if_icmp .ge 5, 3) := by decide +kernel
theorem dX6_faultOf_20 : decode cX6_faultOf 20 = .ok (.iconst 2, 1) := by decide +kernel
theorem dX6_faultOf_21 : decode cX6_faultOf 21 = .ok (.ireturn, 1) := by decide +kernel
theorem dX6_faultOf_22 : decode cX6_faultOf 22 = .ok (.iconst 1, 1) := by decide +kernel
theorem dX6_faultOf_23 : decode cX6_faultOf 23 = .ok (.istore_n 1, 1) := by decide +kernel
theorem dX6_faultOf_24 : decode cX6_faultOf 24 = .ok (.aload_n 0, 1) := by decide +kernel
theorem dX6_faultOf_25 : decode cX6_faultOf 25 = .ok (.iconst 2, 1) := by decide +kernel
theorem dX6_faultOf_26 : decode cX6_faultOf 26 = .ok (.invokevirtual 57, 3) := by decide +kernel
theorem dX6_faultOf_29 : decode cX6_faultOf 29 = .ok (.istore_n 2, 1) := by decide +kernel
theorem dX6_faultOf_30 : decode cX6_faultOf 30 = .ok (.iload_n 2, 1) := by decide +kernel
theorem dX6_faultOf_31 : decode cX6_faultOf 31 = .ok (.aload_n 0, 1) := by decide +kernel
theorem dX6_faultOf_32 : decode cX6_faultOf 32 = .ok (.iconst 3, 1) := by decide +kernel
theorem dX6_faultOf_33 : decode cX6_faultOf 33 = .ok (.invokevirtual 57, 3) := by decide +kernel
theorem dX6_faultOf_36 : decode cX6_faultOf 36 = .ok (.if_icmp .gt 19, 3) := by decide +kernel
theorem dX6_faultOf_39 : decode cX6_faultOf 39 = .ok (.iload_n 1, 1) := by decide +kernel
theorem dX6_faultOf_40 : decode cX6_faultOf 40 = .ok (.ifCond .eq 15, 3) := by decide +kernel
theorem dX6_faultOf_43 : decode cX6_faultOf 43 = .ok (.aload_n 0, 1) := by decide +kernel
theorem dX6_faultOf_44 : decode cX6_faultOf 44 = .ok (.iload_n 2, 1) := by decide +kernel
theorem dX6_faultOf_45 : decode cX6_faultOf 45 = .ok (.invokevirtual 111, 3) := by decide +kernel
theorem dX6_faultOf_48 : decode cX6_faultOf 48 = .ok (.istore_n 1, 1) := by decide +kernel
theorem dX6_faultOf_49 : decode cX6_faultOf 49 = .ok (.iinc 2 1, 3) := by decide +kernel
theorem dX6_faultOf_52 : decode cX6_faultOf 52 = .ok (.goto (-22), 3) := by decide +kernel
theorem dX6_faultOf_55 : decode cX6_faultOf 55 = .ok (.iload_n 1, 1) := by decide +kernel
theorem dX6_faultOf_56 : decode cX6_faultOf 56 = .ok (.ifCond .ne 5, 3) := by decide +kernel
theorem dX6_faultOf_59 : decode cX6_faultOf 59 = .ok (.iconst 3, 1) := by decide +kernel
theorem dX6_faultOf_60 : decode cX6_faultOf 60 = .ok (.ireturn, 1) := by decide +kernel
theorem dX6_faultOf_61 : decode cX6_faultOf 61 = .ok (.aload_n 0, 1) := by decide +kernel
theorem dX6_faultOf_62 : decode cX6_faultOf 62 = .ok (.invokevirtual 114, 3) := by decide +kernel
theorem dX6_faultOf_65 : decode cX6_faultOf 65 = .ok (.ifCond .ne 5, 3) := by decide +kernel
theorem dX6_faultOf_68 : decode cX6_faultOf 68 = .ok (.iconst 4, 1) := by decide +kernel
theorem dX6_faultOf_69 : decode cX6_faultOf 69 = .ok (.ireturn, 1) := by decide +kernel
theorem dX6_faultOf_70 : decode cX6_faultOf 70 = .ok (.iconst 0, 1) := by decide +kernel
theorem dX6_faultOf_71 : decode cX6_faultOf 71 = .ok (.istore_n 2, 1) := by decide +kernel
theorem dX6_faultOf_72 : decode cX6_faultOf 72 = .ok (.iload_n 2, 1) := by decide +kernel
theorem dX6_faultOf_73 : decode cX6_faultOf 73 = .ok (.aload_n 0, 1) := by decide +kernel
theorem dX6_faultOf_74 : decode cX6_faultOf 74 = .ok (.bipush 8, 2) := by decide +kernel
theorem dX6_faultOf_76 : decode cX6_faultOf 76 = .ok (.invokevirtual 57, 3) := by decide +kernel
theorem dX6_faultOf_79 : decode cX6_faultOf 79 = .ok (.if_icmp .ge 19, 3) := by decide +kernel
theorem dX6_faultOf_82 : decode cX6_faultOf 82 = .ok (.iload_n 1, 1) := by decide +kernel
theorem dX6_faultOf_83 : decode cX6_faultOf 83 = .ok (.ifCond .eq 15, 3) := by decide +kernel
theorem dX6_faultOf_86 : decode cX6_faultOf 86 = .ok (.aload_n 0, 1) := by decide +kernel
theorem dX6_faultOf_87 : decode cX6_faultOf 87 = .ok (.iload_n 2, 1) := by decide +kernel
theorem dX6_faultOf_88 : decode cX6_faultOf 88 = .ok (.invokevirtual 117, 3) := by decide +kernel
theorem dX6_faultOf_91 : decode cX6_faultOf 91 = .ok (.istore_n 1, 1) := by decide +kernel
theorem dX6_faultOf_92 : decode cX6_faultOf 92 = .ok (.iinc 2 1, 3) := by decide +kernel
theorem dX6_faultOf_95 : decode cX6_faultOf 95 = .ok (.goto (-23), 3) := by decide +kernel
theorem dX6_faultOf_98 : decode cX6_faultOf 98 = .ok (.iload_n 1, 1) := by decide +kernel
theorem dX6_faultOf_99 : decode cX6_faultOf 99 = .ok (.ifCond .ne 5, 3) := by decide +kernel
theorem dX6_faultOf_102 : decode cX6_faultOf 102 = .ok (.iconst 5, 1) := by decide +kernel
theorem dX6_faultOf_103 : decode cX6_faultOf 103 = .ok (.ireturn, 1) := by decide +kernel
theorem dX6_faultOf_104 : decode cX6_faultOf 104 = .ok (.iconst 0, 1) := by decide +kernel
theorem dX6_faultOf_105 : decode cX6_faultOf 105 = .ok (.istore_n 2, 1) := by decide +kernel
theorem dX6_faultOf_106 : decode cX6_faultOf 106 = .ok (.iload_n 2, 1) := by decide +kernel
theorem dX6_faultOf_107 : decode cX6_faultOf 107 = .ok (.aload_n 0, 1) := by decide +kernel
theorem dX6_faultOf_108 : decode cX6_faultOf 108 = .ok (.bipush 10, 2) := by decide +kernel
theorem dX6_faultOf_110 : decode cX6_faultOf 110 = .ok (.invokevirtual 57, 3) := by decide +kernel
theorem dX6_faultOf_113 : decode cX6_faultOf 113 = .ok (.if_icmp .ge 19, 3) := by decide +kernel
theorem dX6_faultOf_116 : decode cX6_faultOf 116 = .ok (.iload_n 1, 1) := by decide +kernel
theorem dX6_faultOf_117 : decode cX6_faultOf 117 = .ok (.ifCond .eq 15, 3) := by decide +kernel
theorem dX6_faultOf_120 : decode cX6_faultOf 120 = .ok (.aload_n 0, 1) := by decide +kernel
theorem dX6_faultOf_121 : decode cX6_faultOf 121 = .ok (.iload_n 2, 1) := by decide +kernel
theorem dX6_faultOf_122 : decode cX6_faultOf 122 = .ok (.invokevirtual 120, 3) := by decide +kernel
theorem dX6_faultOf_125 : decode cX6_faultOf 125 = .ok (.istore_n 1, 1) := by decide +kernel
theorem dX6_faultOf_126 : decode cX6_faultOf 126 = .ok (.iinc 2 1, 3) := by decide +kernel
theorem dX6_faultOf_129 : decode cX6_faultOf 129 = .ok (.goto (-23), 3) := by decide +kernel
theorem dX6_faultOf_132 : decode cX6_faultOf 132 = .ok (.iload_n 1, 1) := by decide +kernel
theorem dX6_faultOf_133 : decode cX6_faultOf 133 = .ok (.ifCond .ne 8, 3) := by decide +kernel
theorem dX6_faultOf_136 : decode cX6_faultOf 136 = .ok (.bipush 6, 2) := by decide +kernel
theorem dX6_faultOf_138 : decode cX6_faultOf 138 = .ok (.goto 16, 3) := by decide +kernel
theorem dX6_faultOf_141 : decode cX6_faultOf 141 = .ok (.aload_n 0, 1) := by decide +kernel
theorem dX6_faultOf_142 : decode cX6_faultOf 142 = .ok (.invokevirtual 123, 3) := by decide +kernel
theorem dX6_faultOf_145 : decode cX6_faultOf 145 = .ok (.ifCond .eq 7, 3) := by decide +kernel
theorem dX6_faultOf_148 : decode cX6_faultOf 148 = .ok (.iconst 0, 1) := by decide +kernel
theorem dX6_faultOf_149 : decode cX6_faultOf 149 = .ok (.goto 5, 3) := by decide +kernel
theorem dX6_faultOf_152 : decode cX6_faultOf 152 = .ok (.bipush 7, 2) := by decide +kernel
theorem dX6_faultOf_154 : decode cX6_faultOf 154 = .ok (.ireturn, 1) := by decide +kernel
theorem dX6_load_0 : decode cX6_load 0 = .ok (.iload_n 1, 1) := by decide +kernel
theorem dX6_load_1 : decode cX6_load 1 = .ok (.ifCond .lt 18, 3) := by decide +kernel
theorem dX6_load_4 : decode cX6_load 4 = .ok (.iload_n 1, 1) := by decide +kernel
theorem dX6_load_5 : decode cX6_load 5 = .ok (.ldc 126, 2) := by decide +kernel
theorem dX6_load_7 : decode cX6_load 7 = .ok (.if_icmp .gt 12, 3) := by decide +kernel
theorem dX6_load_10 : decode cX6_load 10 = .ok (.aload_n 0, 1) := by decide +kernel
theorem dX6_load_11 : decode cX6_load 11 = .ok (.getfield 45, 3) := by decide +kernel
theorem dX6_load_14 : decode cX6_load 14 = .ok (.bipush 32, 2) := by decide +kernel
theorem dX6_load_16 : decode cX6_load 16 = .ok (.if_icmp .ne 9, 3) := by decide +kernel
theorem dX6_load_19 : decode cX6_load 19 = .ok (.aload_n 0, 1) := by decide +kernel
theorem dX6_load_20 : decode cX6_load 20 = .ok (.iconst 2, 1) := by decide +kernel
theorem dX6_load_21 : decode cX6_load 21 = .ok (.invokevirtual 127, 3) := by decide +kernel
theorem dX6_load_24 : decode cX6_load 24 = .ok (.ireturn, 1) := by decide +kernel
theorem dX6_load_25 : decode cX6_load 25 = .ok (.aload_n 0, 1) := by decide +kernel
theorem dX6_load_26 : decode cX6_load 26 = .ok (.aload_n 0, 1) := by decide +kernel
theorem dX6_load_27 : decode cX6_load 27 = .ok (.getfield 14, 3) := by decide +kernel
theorem dX6_load_30 : decode cX6_load 30 = .ok (.aload_n 0, 1) := by decide +kernel
theorem dX6_load_31 : decode cX6_load 31 = .ok (.getfield 45, 3) := by decide +kernel
theorem dX6_load_34 : decode cX6_load 34 = .ok (.iaload, 1) := by decide +kernel
theorem dX6_load_35 : decode cX6_load 35 = .ok (.putfield 50, 3) := by decide +kernel
theorem dX6_load_38 : decode cX6_load 38 = .ok (.aload_n 0, 1) := by decide +kernel
theorem dX6_load_39 : decode cX6_load 39 = .ok (.aload_n 0, 1) := by decide +kernel
theorem dX6_load_40 : decode cX6_load 40 = .ok (.invokevirtual 130, 3) := by decide +kernel
theorem dX6_load_43 : decode cX6_load 43 = .ok (.putfield 133, 3) := by decide +kernel
theorem dX6_load_46 : decode cX6_load 46 = .ok (.aload_n 0, 1) := by decide +kernel
theorem dX6_load_47 : decode cX6_load 47 = .ok (.getfield 41, 3) := by decide +kernel
theorem dX6_load_50 : decode cX6_load 50 = .ok (.istore_n 2, 1) := by decide +kernel
theorem dX6_load_51 : decode cX6_load 51 = .ok (.aload_n 0, 1) := by decide +kernel
theorem dX6_load_52 : decode cX6_load 52 = .ok (.iconst 0, 1) := by decide +kernel
theorem dX6_load_53 : decode cX6_load 53 = .ok (.putfield 41, 3) := by decide +kernel
theorem dX6_load_56 : decode cX6_load 56 = .ok (.aload_n 0, 1) := by decide +kernel
theorem dX6_load_57 : decode cX6_load 57 = .ok (.getfield 133, 3) := by decide +kernel
theorem dX6_load_60 : decode cX6_load 60 = .ok (.ifCond .le 9, 3) := by decide +kernel
theorem dX6_load_63 : decode cX6_load 63 = .ok (.aload_n 0, 1) := by decide +kernel
theorem dX6_load_64 : decode cX6_load 64 = .ok (.iconst 1, 1) := by decide +kernel
theorem dX6_load_65 : decode cX6_load 65 = .ok (.invokevirtual 127, 3) := by decide +kernel
theorem dX6_load_68 : decode cX6_load 68 = .ok (.ireturn, 1) := by decide +kernel
theorem dX6_load_69 : decode cX6_load 69 = .ok (.aload_n 0, 1) := by decide +kernel
theorem dX6_load_70 : decode cX6_load 70 = .ok (.iconst 0, 1) := by decide +kernel
theorem dX6_load_71 : decode cX6_load 71 = .ok (.putfield 37, 3) := by decide +kernel
theorem dX6_load_74 : decode cX6_load 74 = .ok (.aload_n 0, 1) := by decide +kernel
theorem dX6_load_75 : decode cX6_load 75 = .ok (.getfield 17, 3) := by decide +kernel
theorem dX6_load_78 : decode cX6_load 78 = .ok (.aload_n 0, 1) := by decide +kernel
theorem dX6_load_79 : decode cX6_load 79 = .ok (.getfield 45, 3) := by decide +kernel
theorem dX6_load_82 : decode cX6_load 82 = .ok (.iload_n 1, 1) := by decide +kernel
theorem dX6_load_83 : decode cX6_load 83 = .ok (.ifCond .ne 14, 3) := by decide +kernel
theorem dX6_load_86 : decode cX6_load 86 = .ok (.aload_n 0, 1) := by decide +kernel
theorem dX6_load_87 : decode cX6_load 87 = .ok (.bipush 7, 2) := by decide +kernel
theorem dX6_load_89 : decode cX6_load 89 = .ok (.invokevirtual 83, 3) := by decide +kernel
theorem dX6_load_92 : decode cX6_load 92 = .ok (.iconst 4, 1) := by decide +kernel
theorem dX6_load_93 : decode cX6_load 93 = .ok (.ishr, 1) := by decide +kernel
theorem dX6_load_94 : decode cX6_load 94 = .ok (.goto 4, 3) := by decide +kernel
theorem dX6_load_97 : decode cX6_load 97 = .ok (.iload_n 1, 1) := by decide +kernel
theorem dX6_load_98 : decode cX6_load 98 = .ok (.iastore, 1) := by decide +kernel
theorem dX6_load_99 : decode cX6_load 99 = .ok (.aload_n 0, 1) := by decide +kernel
theorem dX6_load_100 : decode cX6_load 100 = .ok (.dup, 1) := by decide +kernel
theorem dX6_load_101 : decode cX6_load 101 = .ok (.getfield 45, 3) := by decide +kernel
theorem dX6_load_104 : decode cX6_load 104 = .ok (.iconst 1, 1) := by decide +kernel
theorem dX6_load_105 : decode cX6_load 105 = .ok (.iadd, 1) := by decide +kernel
theorem dX6_load_106 : decode cX6_load 106 = .ok (.putfield 45, 3) := by decide +kernel
theorem dX6_load_109 : decode cX6_load 109 = .ok (.aload_n 0, 1) := by decide +kernel
theorem dX6_load_110 : decode cX6_load 110 = .ok (.getfield 14, 3) := by decide +kernel
