theorem dX4_run_119 : decode cX4_run 119 = .ok (.iconst 1, 1) := by decide +kernel
theorem dX4_run_120 : decode cX4_run 120 = .ok (.ireturn, 1) := by decide +kernel
theorem dX4_nextCode_0 : decode cX4_nextCode 0 = .ok (.aload_n 0, 1) := by decide +kernel
theorem dX4_nextCode_1 : decode cX4_nextCode 1 = .ok (.getfield 40, 3) := by decide +kernel
theorem dX4_nextCode_4 : decode cX4_nextCode 4 = .ok (.ifCond .le 27, 3) := by decide +kernel
theorem dX4_nextCode_7 : decode cX4_nextCode 7 = .ok (.aload_n 0, 1) := by decide +kernel
theorem dX4_nextCode_8 : decode cX4_nextCode 8 = .ok (.getfield 40, 3) := by decide +kernel
theorem dX4_nextCode_11 : decode cX4_nextCode 11 = .ok (.sipush 1000, 3) := by decide +kernel
theorem dX4_nextCode_14 : decode cX4_nextCode 14 = .ok (.if_icmp .gt 17, 3) := by decide +kernel
theorem dX4_nextCode_17 : decode cX4_nextCode 17 = .ok (.aload_n 0, 1) := by decide +kernel
theorem dX4_nextCode_18 : decode cX4_nextCode 18 = .ok (.getfield 37, 3) := by decide +kernel
theorem dX4_nextCode_21 : decode cX4_nextCode 21 = .ok (.aload_n 0, 1) := by decide +kernel
theorem dX4_nextCode_22 : decode cX4_nextCode 22 = .ok (.getfield 40, 3) := by decide +kernel
theorem dX4_nextCode_25 : decode cX4_nextCode 25 = .ok (.iconst 1, 1) := by decide +kernel
theorem dX4_nextCode_26 : decode cX4_nextCode 26 = .ok (.isub, 1) := by decide +kernel
theorem dX4_nextCode_27 : decode cX4_nextCode 27 = .ok (.iaload, 1) := by decide +kernel
theorem dX4_nextCode_28 : decode cX4_nextCode 28 = .ok (.goto 4, 3) := by decide +kernel
theorem dX4_nextCode_31 : decode cX4_nextCode 31 = .ok (.iconst (-1), 1) := by decide +kernel
theorem dX4_nextCode_32 : decode cX4_nextCode 32 = .ok (.ireturn, 1) := by decide +kernel
theorem dX4_kern_0 : decode cX4_kern 0 = .ok (.aload_n 0, 1) := by decide +kernel
theorem dX4_kern_1 : decode cX4_kern 1 = .ok (.dup, 1) := by decide +kernel
theorem dX4_kern_2 : decode cX4_kern 2 = .ok (.getfield 43, 3) := by decide +kernel
theorem dX4_kern_5 : decode cX4_kern 5 = .ok (.iconst 1, 1) := by decide +kernel
theorem dX4_kern_6 : decode cX4_kern 6 = .ok (.iadd, 1) := by decide +kernel
theorem dX4_kern_7 : decode cX4_kern 7 = .ok (.putfield 43, 3) := by decide +kernel
theorem dX4_kern_10 : decode cX4_kern 10 = .ok (.aload_n 0, 1) := by decide +kernel
theorem dX4_kern_11 : decode cX4_kern 11 = .ok (.getfield 43, 3) := by decide +kernel
theorem dX4_kern_14 : decode cX4_kern 14 = .ok (.sipush 1000, 3) := by decide +kernel
theorem dX4_kern_17 : decode cX4_kern 17 = .ok (.if_icmp .le 4, 3) := by decide +kernel
theorem dX4_kern_20 : decode cX4_kern 20 = .ok (.return_, 1) := by decide +kernel
theorem dX4_kern_21 : decode cX4_kern 21 = .ok (.aload_n 0, 1) := by decide +kernel
theorem dX4_kern_22 : decode cX4_kern 22 = .ok (.invokevirtual 99, 3) := by decide +kernel
theorem dX4_kern_25 : decode cX4_kern 25 = .ok (.aload_n 0, 1) := by decide +kernel
theorem dX4_kern_26 : decode cX4_kern 26 = .ok (.iconst 2, 1) := by decide +kernel
theorem dX4_kern_27 : decode cX4_kern 27 = .ok (.iload_n 1, 1) := by decide +kernel
theorem dX4_kern_28 : decode cX4_kern 28 = .ok (.invokevirtual 106, 3) := by decide +kernel
theorem dX4_kern_31 : decode cX4_kern 31 = .ok (.aload_n 0, 1) := by decide +kernel
theorem dX4_kern_32 : decode cX4_kern 32 = .ok (.invokevirtual 109, 3) := by decide +kernel
theorem dX4_kern_35 : decode cX4_kern 35 = .ok (.return_, 1) := by decide +kernel
theorem dX4_ligature_0 : decode cX4_ligature 0 = .ok (.iload_n 1, 1) := by decide +kernel
theorem dX4_ligature_1 : decode cX4_ligature 1 = .ok (.tableswitch 92 0 6 #[43, 65, 73, 92, 92, 65, 73], 43) := by decide +kernel
theorem dX4_ligature_44 : decode cX4_ligature 44 = .ok (.aload_n 0, 1) := by decide +kernel
theorem dX4_ligature_45 : decode cX4_ligature 45 = .ok (.invokevirtual 109, 3) := by decide +kernel
theorem dX4_ligature_48 : decode cX4_ligature 48 = .ok (.aload_n 0, 1) := by decide +kernel
theorem dX4_ligature_49 : decode cX4_ligature 49 = .ok (.dup, 1) := by decide +kernel
theorem dX4_ligature_50 : decode cX4_ligature 50 = .ok (.getfield 43, 3) := by decide +kernel
theorem dX4_ligature_53 : decode cX4_ligature 53 = .ok (.iconst 1, 1) := by decide +kernel
theorem dX4_ligature_54 : decode cX4_ligature 54 = .ok (.isub, 1) := by decide +kernel
theorem dX4_ligature_55 : decode cX4_ligature 55 = .ok (.putfield 43, 3) := by decide +kernel
theorem dX4_ligature_58 : decode cX4_ligature 58 = .ok (.aload_n 0, 1) := by decide +kernel
theorem dX4_ligature_59 : decode cX4_ligature 59 = .ok (.iload_n 2, 1) := by decide +kernel
theorem dX4_ligature_60 : decode cX4_ligature 60 = .ok (.invokevirtual 112, 3) := by decide +kernel
theorem dX4_ligature_63 : decode cX4_ligature 63 = .ok (.goto 46, 3) := by decide +kernel
theorem dX4_ligature_66 : decode cX4_ligature 66 = .ok (.aload_n 0, 1) := by decide +kernel
theorem dX4_ligature_67 : decode cX4_ligature 67 = .ok (.iload_n 2, 1) := by decide +kernel
theorem dX4_ligature_68 : decode cX4_ligature 68 = .ok (.invokevirtual 112, 3) := by decide +kernel
theorem dX4_ligature_71 : decode cX4_ligature 71 = .ok (.goto 38, 3) := by decide +kernel
theorem dX4_ligature_74 : decode cX4_ligature 74 = .ok (.aload_n 0, 1) := by decide +kernel
theorem dX4_ligature_75 : decode cX4_ligature 75 = .ok (.dup, 1) := by decide +kernel
theorem dX4_ligature_76 : decode cX4_ligature 76 = .ok (.getfield 40, 3) := by decide +kernel
theorem dX4_ligature_79 : decode cX4_ligature 79 = .ok (.iconst 1, 1) := by decide +kernel
theorem dX4_ligature_80 : decode cX4_ligature 80 = .ok (.isub, 1) := by decide +kernel
theorem dX4_ligature_81 : decode cX4_ligature 81 = .ok (.putfield 40, 3) := by decide +kernel
theorem dX4_ligature_84 : decode cX4_ligature 84 = .ok (.aload_n 0, 1) := by decide +kernel
theorem dX4_ligature_85 : decode cX4_ligature 85 = .ok (.iconst 1, 1) := by decide +kernel
theorem dX4_ligature_86 : decode cX4_ligature 86 = .ok (.iload_n 2, 1) := by decide +kernel
theorem dX4_ligature_87 : decode cX4_ligature 87 = .ok (.invokevirtual 58, 3) := by decide +kernel
theorem dX4_ligature_90 : decode cX4_ligature 90 = .ok (.goto 19, 3) := by decide +kernel
theorem dX4_ligature_93 : decode cX4_ligature 93 = .ok (.aload_n 0, 1) := by decide +kernel
theorem dX4_ligature_94 : decode cX4_ligature 94 = .ok (.dup, 1) := by decide +kernel
theorem dX4_ligature_95 : decode cX4_ligature 95 = .ok (.getfield 43, 3) := by decide +kernel
theorem dX4_ligature_98 : decode cX4_ligature 98 = .ok (.iconst 1, 1) := by decide +kernel
theorem dX4_ligature_99 : decode cX4_ligature 99 = .ok (.iadd, 1) := by decide +kernel
theorem dX4_ligature_100 : decode cX4_ligature 100 = .ok (.putfield 43, 3) := by decide +kernel
theorem dX4_ligature_103 : decode cX4_ligature 103 = .ok (.aload_n 0, 1) := by decide +kernel
theorem dX4_ligature_104 : decode cX4_ligature 104 = .ok (.iconst 1, 1) := by decide +kernel
theorem dX4_ligature_105 : decode cX4_ligature 105 = .ok (.iload_n 2, 1) := by decide +kernel
theorem dX4_ligature_106 : decode cX4_ligature 106 = .ok (.invokevirtual 58, 3) := by decide +kernel
theorem dX4_ligature_109 : decode cX4_ligature 109 = .ok (.iload_n 1, 1) := by decide +kernel
theorem dX4_ligature_110 : decode cX4_ligature 110 = .ok (.bipush 11, 2) := by decide +kernel
theorem dX4_ligature_112 : decode cX4_ligature 112 = .ok (.if_icmp .ne 7, 3) := by decide +kernel
theorem dX4_ligature_115 : decode cX4_ligature 115 = .ok (.iconst 2, 1) := by decide +kernel
theorem dX4_ligature_116 : decode cX4_ligature 116 = .ok (.goto 13, 3) := by decide +kernel
theorem dX4_ligature_119 : decode cX4_ligature 119 = .ok (.iload_n 1, 1) := by decide +kernel
theorem dX4_ligature_120 : decode cX4_ligature 120 = .ok (.iconst 5, 1) := by decide +kernel
theorem dX4_ligature_121 : decode cX4_ligature 121 = .ok (.if_icmp .lt 7, 3) := by decide +kernel
theorem dX4_ligature_124 : decode cX4_ligature 124 = .ok (.iconst 1, 1) := by decide +kernel
theorem dX4_ligature_125 : decode cX4_ligature 125 = .ok (.goto 4, 3) := by decide +kernel
theorem dX4_ligature_128 : decode cX4_ligature 128 = .ok (.iconst 0, 1) := by decide +kernel
theorem dX4_ligature_129 : decode cX4_ligature 129 = .ok (.istore_n 3, 1) := by decide +kernel
theorem dX4_ligature_130 : decode cX4_ligature 130 = .ok (.iconst 0, 1) := by decide +kernel
theorem dX4_ligature_131 : decode cX4_ligature 131 = .ok (.istore 4, 2) := by decide +kernel
theorem dX4_ligature_133 : decode cX4_ligature 133 = .ok (.iload 4, 2) := by decide +kernel
theorem dX4_ligature_135 : decode cX4_ligature 135 = .ok (.iload_n 3, 1) := by decide +kernel
theorem dX4_ligature_136 : decode cX4_ligature 136 = .ok (.if_icmp .ge 23, 3) := by decide +kernel
theorem dX4_ligature_139 : decode cX4_ligature 139 = .ok (.aload_n 0, 1) := by decide +kernel
theorem dX4_ligature_140 : decode cX4_ligature 140 = .ok (.getfield 43, 3) := by decide +kernel
theorem dX4_ligature_143 : decode cX4_ligature 143 = .ok (.sipush 1000, 3) := by decide +kernel
theorem dX4_ligature_146 : decode cX4_ligature 146 = .ok (.if_icmp .gt 13, 3) := by decide +kernel
theorem dX4_ligature_149 : decode cX4_ligature 149 = .ok (.aload_n 0, 1) := by decide +kernel
theorem dX4_ligature_150 : decode cX4_ligature 150 = .ok (.invokevirtual 77, 3) := by decide +kernel
theorem dX4_ligature_153 : decode cX4_ligature 153 = .ok (.iinc 4 1, 3) := by decide +kernel
theorem dX4_ligature_156 : decode cX4_ligature 156 = .ok (.goto (-23), 3) := by decide +kernel
theorem dX4_ligature_159 : decode cX4_ligature 159 = .ok (.return_, 1) := by decide +kernel
theorem dX4_becomeLigature_0 : decode cX4_becomeLigature 0 = .ok (.aload_n 0, 1) := by decide +kernel
theorem dX4_becomeLigature_1 : decode cX4_becomeLigature 1 = .ok (.iconst 1, 1) := by decide +kernel
theorem dX4_becomeLigature_2 : decode cX4_becomeLigature 2 = .ok (.putfield 26, 3) := by decide +kernel
theorem dX4_becomeLigature_5 : decode cX4_becomeLigature 5 = .ok (.aload_n 0, 1) := by decide +kernel
theorem dX4_becomeLigature_6 : decode cX4_becomeLigature 6 = .ok (.iload_n 1, 1) := by decide +kernel
theorem dX4_becomeLigature_7 : decode cX4_becomeLigature 7 = .ok (.putfield 31, 3) := by decide +kernel
theorem dX4_becomeLigature_10 : decode cX4_becomeLigature 10 = .ok (.return_, 1) := by decide +kernel
theorem dX4_goOn_0 : decode cX4_goOn 0 = .ok (.aload_n 0, 1) := by decide +kernel
theorem dX4_goOn_1 : decode cX4_goOn 1 = .ok (.invokevirtual 99, 3) := by decide +kernel
theorem dX4_goOn_4 : decode cX4_goOn 4 = .ok (.aload_n 0, 1) := by decide +kernel
theorem dX4_goOn_5 : decode cX4_goOn 5 = .ok (.invokevirtual 109, 3) := by decide +kernel
theorem dX4_goOn_8 : decode cX4_goOn 8 = .ok (.return_, 1) := by decide +kernel
theorem dX4_passSign_0 : decode cX4_passSign 0 = .ok (.aload_n 0, 1) := by decide +kernel
theorem dX4_passSign_1 : decode cX4_passSign 1 = .ok (.getfield 26, 3) := by decide +kernel
theorem dX4_passSign_4 : decode cX4_passSign 4 = .ok (.iconst 3, 1) := by decide +kernel
theorem dX4_passSign_5 : decode cX4_passSign 5 = .ok (.if_icmp .eq 15, 3) := by decide +kernel
theorem dX4_passSign_8 : decode cX4_passSign 8 = .ok (.aload_n 0, 1) := by decide +kernel
theorem dX4_passSign_9 : decode cX4_passSign 9 = .ok (.aload_n 0, 1) := by decide +kernel
theorem dX4_passSign_10 : decode cX4_passSign 10 = .ok (.getfield 26, 3) := by decide +kernel
theorem dX4_passSign_13 : decode cX4_passSign 13 = .ok (.aload_n 0, 1) := by decide +kernel
theorem dX4_passSign_14 : decode cX4_passSign 14 = .ok (.getfield 31, 3) := by decide +kernel
theorem dX4_passSign_17 : decode cX4_passSign 17 = .ok (.invokevirtual 106, 3) := by decide +kernel
theorem dX4_passSign_20 : decode cX4_passSign 20 = .ok (.return_, 1) := by decide +kernel
theorem dX4_addItem_0 : decode cX4_addItem 0 = .ok (.aload_n 0, 1) := by decide +kernel
theorem dX4_addItem_1 : decode cX4_addItem 1 = .ok (.getfield 18, 3) := by decide +kernel
theorem dX4_addItem_4 : decode cX4_addItem 4 = .ok (.ifCond .lt 43, 3) := by decide +kernel
theorem dX4_addItem_7 : decode cX4_addItem 7 = .ok (.aload_n 0, 1) := by decide +kernel
theorem dX4_addItem_8 : decode cX4_addItem 8 = .ok (.getfield 18, 3) := by decide +kernel
theorem dX4_addItem_11 : decode cX4_addItem 11 = .ok (.sipush 1000, 3) := by decide +kernel
theorem dX4_addItem_14 : decode cX4_addItem 14 = .ok (.if_icmp .ge 33, 3) := by decide +kernel
theorem dX4_addItem_17 : decode cX4_addItem 17 = .ok (.aload_n 0, 1) := by decide +kernel
theorem dX4_addItem_18 : decode cX4_addItem 18 = .ok (.getfield 11, 3) := by decide +kernel
theorem dX4_addItem_21 : decode cX4_addItem 21 = .ok (.aload_n 0, 1) := by decide +kernel
theorem dX4_addItem_22 : decode cX4_addItem 22 = .ok (.getfield 18, 3) := by decide +kernel
theorem dX4_addItem_25 : decode cX4_addItem 25 = .ok (.iload_n 1, 1) := by decide +kernel
theorem dX4_addItem_26 : decode cX4_addItem 26 = .ok (.iastore, 1) := by decide +kernel
theorem dX4_addItem_27 : decode cX4_addItem 27 = .ok (.aload_n 0, 1) := by decide +kernel
theorem dX4_addItem_28 : decode cX4_addItem 28 = .ok (.getfield 15, 3) := by decide +kernel
theorem dX4_addItem_31 : decode cX4_addItem 31 = .ok (.aload_n 0, 1) := by decide +kernel
theorem dX4_addItem_32 : decode cX4_addItem 32 = .ok (.getfield 18, 3) := by decide +kernel
theorem dX4_addItem_35 : decode cX4_addItem 35 = .ok (.iload_n 2, 1) := by decide +kernel
theorem dX4_addItem_36 : decode cX4_addItem 36 = .ok (.iastore, 1) := by decide +kernel
theorem dX4_addItem_37 : decode cX4_addItem 37 = .ok (.aload_n 0, 1) := by decide +kernel
theorem dX4_addItem_38 : decode cX4_addItem 38 = .ok (.dup, 1) := by decide +kernel
theorem dX4_addItem_39 : decode cX4_addItem 39 = .ok (.getfield 18, 3) := by decide +kernel
theorem dX4_addItem_42 : decode cX4_addItem 42 = .ok (.iconst 1, 1) := by decide +kernel
theorem dX4_addItem_43 : decode cX4_addItem 43 = .ok (.iadd, 1) := by decide +kernel
theorem dX4_addItem_44 : decode cX4_addItem 44 = .ok (.putfield 18, 3) := by decide +kernel
theorem dX4_addItem_47 : decode cX4_addItem 47 = .ok (.return_, 1) := by decide +kernel
theorem dX4_addUp_0 : decode cX4_addUp 0 = .ok (.iconst 0, 1) := by decide +kernel
theorem dX4_addUp_1 : decode cX4_addUp 1 = .ok (.istore_n 2, 1) := by decide +kernel
theorem dX4_addUp_2 : decode cX4_addUp 2 = .ok (.iload_n 2, 1) := by decide +kernel
theorem dX4_addUp_3 : decode cX4_addUp 3 = .ok (.aload_n 0, 1) := by decide +kernel
theorem dX4_addUp_4 : decode cX4_addUp 4 = .ok (.getfield 18, 3) := by decide +kernel
theorem dX4_addUp_7 : decode cX4_addUp 7 = .ok (.if_icmp .ge 57, 3) := by decide +kernel
theorem dX4_addUp_10 : decode cX4_addUp 10 = .ok (.iload_n 2, 1) := by decide +kernel
theorem dX4_addUp_11 : decode cX4_addUp 11 = .ok (.sipush 1000, 3) := by decide +kernel
theorem dX4_addUp_14 : decode cX4_addUp 14 = .ok (.if_icmp .ge 50, 3) := by decide +kernel
theorem dX4_addUp_17 : decode cX4_addUp 17 = .ok (.aload_n 0, 1) := by decide +kernel
theorem dX4_addUp_18 : decode cX4_addUp 18 = .ok (.dup, 1) := by decide +kernel
theorem dX4_addUp_19 : decode cX4_addUp 19 = .ok (.getfield 22, 3) := by decide +kernel
theorem dX4_addUp_22 : decode cX4_addUp 22 = .ok (.aload_n 0, 1) := by decide +kernel
theorem dX4_addUp_23 : decode cX4_addUp 23 = .ok (.getfield 11, 3) := by decide +kernel
theorem dX4_addUp_26 : decode cX4_addUp 26 = .ok (.iload_n 2, 1) := by decide +kernel
theorem dX4_addUp_27 : decode cX4_addUp 27 = .ok (.iaload, 1) := by decide +kernel
theorem dX4_addUp_28 : decode cX4_addUp 28 = .ok (.iconst 2, 1) := by decide +kernel
theorem dX4_addUp_29 : decode cX4_addUp 29 = .ok (.if_icmp .ne 13, 3) := by decide +kernel
theorem dX4_addUp_32 : decode cX4_addUp 32 = .ok (.aload_n 0, 1) := by decide +kernel
theorem dX4_addUp_33 : decode cX4_addUp 33 = .ok (.getfield 15, 3) := by decide +kernel
theorem dX4_addUp_36 : decode cX4_addUp 36 = .ok (.iload_n 2, 1) := by decide +kernel
theorem dX4_addUp_37 : decode cX4_addUp 37 = .ok (.iaload, 1) := by decide +kernel
theorem dX4_addUp_38 : decode cX4_addUp 38 = .ok (.i2l, 1) := by decide +kernel
theorem dX4_addUp_39 : decode cX4_addUp 39 = .ok (.goto 15, 3) := by decide +kernel
theorem dX4_addUp_42 : decode cX4_addUp 42 = .ok (.aload_n 1, 1) := by decide +kernel
theorem dX4_addUp_43 : decode cX4_addUp 43 = .ok (.aload_n 0, 1) := by decide +kernel
theorem dX4_addUp_44 : decode cX4_addUp 44 = .ok (.getfield 15, 3) := by decide +kernel
theorem dX4_addUp_47 : decode cX4_addUp 47 = .ok (.iload_n 2, 1) := by decide +kernel
theorem dX4_addUp_48 : decode cX4_addUp 48 = .ok (.iaload, 1) := by decide +kernel
theorem dX4_addUp_49 : decode cX4_addUp 49 = .ok (.iconst 0, 1) := by decide +kernel
theorem dX4_addUp_50 : decode cX4_addUp 50 = .ok (.invokevirtual 115, 3) := by decide +kernel
theorem dX4_addUp_53 : decode cX4_addUp 53 = .ok (.i2l, 1) := by decide +kernel
theorem dX4_addUp_54 : decode cX4_addUp 54 = .ok (.ladd, 1) := by decide +kernel
theorem dX4_addUp_55 : decode cX4_addUp 55 = .ok (.putfield 22, 3) := by decide +kernel
theorem dX4_addUp_58 : decode cX4_addUp 58 = .ok (.iinc 2 1, 3) := by decide +kernel
theorem dX4_addUp_61 : decode cX4_addUp 61 = .ok (.goto (-59), 3) := by decide +kernel
theorem dX4_addUp_64 : decode cX4_addUp 64 = .ok (.return_, 1) := by decide +kernel
theorem dX4_push_0 : decode cX4_push 0 = .ok (.aload_n 0, 1) := by decide +kernel
theorem dX4_push_1 : decode cX4_push 1 = .ok (.getfield 40, 3) := by decide +kernel
theorem dX4_push_4 : decode cX4_push 4 = .ok (.ifCond .lt 43, 3) := by decide +kernel
theorem dX4_push_7 : decode cX4_push 7 = .ok (.aload_n 0, 1) := by decide +kernel
theorem dX4_push_8 : decode cX4_push 8 = .ok (.getfield 40, 3) := by decide +kernel
theorem dX4_push_11 : decode cX4_push 11 = .ok (.sipush 1000, 3) := by decide +kernel
theorem dX4_push_14 : decode cX4_push 14 = .ok (.if_icmp .ge 33, 3) := by decide +kernel
theorem dX4_push_17 : decode cX4_push 17 = .ok (.aload_n 0, 1) := by decide +kernel
theorem dX4_push_18 : decode cX4_push 18 = .ok (.getfield 34, 3) := by decide +kernel
theorem dX4_push_21 : decode cX4_push 21 = .ok (.aload_n 0, 1) := by decide +kernel
theorem dX4_push_22 : decode cX4_push 22 = .ok (.getfield 40, 3) := by decide +kernel
theorem dX4_push_25 : decode cX4_push 25 = .ok (.iload_n 1, 1) := by decide +kernel
theorem dX4_push_26 : decode cX4_push 26 = .ok (.iastore, 1) := by decide +kernel
theorem dX4_push_27 : decode cX4_push 27 = .ok (.aload_n 0, 1) := by decide +kernel
theorem dX4_push_28 : decode cX4_push 28 = .ok (.getfield 37, 3) := by decide +kernel
theorem dX4_push_31 : decode cX4_push 31 = .ok (.aload_n 0, 1) := by decide +kernel
theorem dX4_push_32 : decode cX4_push 32 = .ok (.getfield 40, 3) := by decide +kernel
theorem dX4_push_35 : decode cX4_push 35 = .ok (.iload_n 2, 1) := by decide +kernel
theorem dX4_push_36 : decode cX4_push 36 = .ok (.iastore, 1) := by decide +kernel
theorem dX4_push_37 : decode cX4_push 37 = .ok (.aload_n 0, 1) := by decide +kernel
theorem dX4_push_38 : decode cX4_push 38 = .ok (.dup, 1) := by decide +kernel
theorem dX4_push_39 : decode cX4_push 39 = .ok (.getfield 40, 3) := by decide +kernel
theorem dX4_push_42 : decode cX4_push 42 = .ok (.iconst 1, 1) := by decide +kernel
theorem dX4_push_43 : decode cX4_push 43 = .ok (.iadd, 1) := by decide +kernel
theorem dX4_push_44 : decode cX4_push 44 = .ok (.putfield 40, 3) := by decide +kernel
theorem dX4_push_47 : decode cX4_push 47 = .ok (.return_, 1) := by decide +kernel
theorem dX4_pop_0 : decode cX4_pop 0 = .ok (.aload_n 0, 1) := by decide +kernel
theorem dX4_pop_1 : decode cX4_pop 1 = .ok (.getfield 40, 3) := by decide +kernel
theorem dX4_pop_4 : decode cX4_pop 4 = .ok (.ifCond .le 49, 3) := by decide +kernel
theorem dX4_pop_7 : decode cX4_pop 7 = .ok (.aload_n 0, 1) := by decide +kernel
theorem dX4_pop_8 : decode cX4_pop 8 = .ok (.getfield 40, 3) := by decide +kernel
theorem dX4_pop_11 : decode cX4_pop 11 = .ok (.sipush 1000, 3) := by decide +kernel
theorem dX4_pop_14 : decode cX4_pop 14 = .ok (.if_icmp .gt 39, 3) := by decide +kernel
theorem dX4_pop_17 : decode cX4_pop 17 = .ok (.aload_n 0, 1) := by decide +kernel
theorem dX4_pop_18 : decode cX4_pop 18 = .ok (.dup, 1) := by decide +kernel
theorem dX4_pop_19 : decode cX4_pop 19 = .ok (.getfield 40, 3) := by decide +kernel
theorem dX4_pop_22 : decode cX4_pop 22 = .ok (.iconst 1, 1) := by decide +kernel
theorem dX4_pop_23 : decode cX4_pop 23 = .ok (.isub, 1) := by decide +kernel
theorem dX4_pop_24 : decode cX4_pop 24 = .ok (.putfield 40, 3) := by decide +kernel
theorem dX4_pop_27 : decode cX4_pop 27 = .ok (.aload_n 0, 1) := by decide +kernel
theorem dX4_pop_28 : decode cX4_pop 28 = .ok (.aload_n 0, 1) := by decide +kernel
theorem dX4_pop_29 : decode cX4_pop 29 = .ok (.getfield 34, 3) := by decide +kernel
theorem dX4_pop_32 : decode cX4_pop 32 = .ok (.aload_n 0, 1) := by decide +kernel
theorem dX4_pop_33 : decode cX4_pop 33 = .ok (.getfield 40, 3) := by decide +kernel
theorem dX4_pop_36 : decode cX4_pop 36 = .ok (.iaload, 1) := by decide +kernel
theorem dX4_pop_37 : decode cX4_pop 37 = .ok (.putfield 26, 3) := by decide +kernel
theorem dX4_pop_40 : decode cX4_pop 40 = .ok (.aload_n 0, 1) := by decide +kernel
theorem dX4_pop_41 : decode cX4_pop 41 = .ok (.aload_n 0, 1) := by decide +kernel
theorem dX4_pop_42 : decode cX4_pop 42 = .ok (.getfield 37, 3) := by decide +kernel
theorem dX4_pop_45 : decode cX4_pop 45 = .ok (.aload_n 0, 1) := by decide +kernel
theorem dX4_pop_46 : decode cX4_pop 46 = .ok (.getfield 40, 3) := by decide +kernel
theorem dX4_pop_49 : decode cX4_pop 49 = .ok (.iaload, 1) := by decide +kernel
theorem dX4_pop_50 : decode cX4_pop 50 = .ok (.putfield 31, 3) := by decide +kernel
theorem dX4_pop_53 : decode cX4_pop 53 = .ok (.return_, 1) := by decide +kernel
theorem dX4_itemCount_0 : decode cX4_itemCount 0 = .ok (.aload_n 0, 1) := by decide +kernel
theorem dX4_itemCount_1 : decode cX4_itemCount 1 = .ok (.getfield 18, 3) := by decide +kernel
theorem dX4_itemCount_4 : decode cX4_itemCount 4 = .ok (.ireturn, 1) := by decide +kernel
theorem dX4_totalWidth_0 : decode cX4_totalWidth 0 = .ok (.aload_n 0, 1) := by decide +kernel
theorem dX4_totalWidth_1 : decode cX4_totalWidth 1 = .ok (.getfield 22, 3) := by decide +kernel
theorem dX4_totalWidth_4 : decode cX4_totalWidth 4 = .ok (.lreturn, 1) := by decide +kernel
theorem dX4_itemPart_0 : decode cX4_itemPart 0 = .ok (.iload_n 1, 1) := by decide +kernel
theorem dX4_itemPart_1 : decode cX4_itemPart 1 = .ok (.ifCond .lt 18, 3) := by decide +kernel
theorem dX4_itemPart_4 : decode cX4_itemPart 4 = .ok (.iload_n 1, 1) := by decide +kernel
theorem dX4_itemPart_5 : decode cX4_itemPart 5 = .ok (.aload_n 0, 1) := by decide +kernel
theorem dX4_itemPart_6 : decode cX4_itemPart 6 = .ok (.getfield 18, 3) := by decide +kernel
theorem dX4_itemPart_9 : decode cX4_itemPart 9 = .ok (.if_icmp .ge 10, 3) := by decide +kernel
theorem dX4_itemPart_12 : decode cX4_itemPart 12 = .ok (.iload_n 1, 1) := by decide +kernel
theorem dX4_itemPart_13 : decode cX4_itemPart 13 = .ok (.sipush 1000, 3) := by decide +kernel
theorem dX4_itemPart_16 : decode cX4_itemPart 16 = .ok (.if_icmp .lt 5, 3) := by decide +kernel
theorem dX4_itemPart_19 : decode cX4_itemPart 19 = .ok (.iconst (-1), 1) := by decide +kernel
theorem dX4_itemPart_20 : decode cX4_itemPart 20 = .ok (.ireturn, 1) := by decide +kernel
theorem dX4_itemPart_21 : decode cX4_itemPart 21 = .ok (.iload_n 2, 1) := by decide +kernel
theorem dX4_itemPart_22 : decode cX4_itemPart 22 = .ok (.ifCond .ne 12, 3) := by decide +kernel
theorem dX4_itemPart_25 : decode cX4_itemPart 25 = .ok (.aload_n 0, 1) := by decide +kernel
theorem dX4_itemPart_26 : decode cX4_itemPart 26 = .ok (.getfield 11, 3) := by decide +kernel
theorem dX4_itemPart_29 : decode cX4_itemPart 29 = .ok (.iload_n 1, 1) := by decide +kernel
theorem dX4_itemPart_30 : decode cX4_itemPart 30 = .ok (.iaload, 1) := by decide +kernel
theorem dX4_itemPart_31 : decode cX4_itemPart 31 = .ok (.goto 18, 3) := by decide +kernel
theorem dX4_itemPart_34 : decode cX4_itemPart 34 = .ok (.iload_n 2, 1) := by decide +kernel
theorem dX4_itemPart_35 : decode cX4_itemPart 35 = .ok (.iconst 1, 1) := by decide +kernel
theorem dX4_itemPart_36 : decode cX4_itemPart 36 = .ok (.if_icmp .ne 12, 3) := by decide +kernel
theorem dX4_itemPart_39 : decode cX4_itemPart 39 = .ok (.aload_n 0, 1) := by decide +kernel
theorem dX4_itemPart_40 : decode cX4_itemPart 40 = .ok (.getfield 15, 3) := by decide +kernel
theorem dX4_itemPart_43 : decode cX4_itemPart 43 = .ok (.iload_n 1, 1) := by decide +kernel
theorem dX4_itemPart_44 : decode cX4_itemPart 44 = .ok (.iaload, 1) := by decide +kernel
theorem dX4_itemPart_45 : decode cX4_itemPart 45 = .ok (.goto 4, 3) := by decide +kernel
theorem dX4_itemPart_48 : decode cX4_itemPart 48 = .ok (.iconst (-1), 1) := by decide +kernel
theorem dX4_itemPart_49 : decode cX4_itemPart 49 = .ok (.ireturn, 1) := by decide +kernel
theorem dX5_init_0 : decode cX5_init 0 = .ok (.aload_n 0, 1) := by decide +kernel
theorem dX5_init_1 : decode cX5_init 1 = .ok (.invokespecial 1, 3) := by decide +kernel
theorem dX5_init_4 : decode cX5_init 4 = .ok (.aload_n 0, 1) := by decide +kernel
theorem dX5_init_5 : decode cX5_init 5 = .ok (.new 7, 3) := by decide +kernel
theorem dX5_init_8 : decode cX5_init 8 = .ok (.dup, 1) := by decide +kernel
theorem dX5_init_9 : decode cX5_init 9 = .ok (.invokespecial 9, 3) := by decide +kernel
theorem dX5_init_12 : decode cX5_init 12 = .ok (.putfield 10, 3) := by decide +kernel
theorem dX5_init_15 : decode cX5_init 15 = .ok (.aload_n 0, 1) := by decide +kernel
theorem dX5_init_16 : decode cX5_init 16 = .ok (.bipush 32, 2) := by decide +kernel
theorem dX5_init_18 : decode cX5_init 18 = .ok (.anewarray 16, 3) := by decide +kernel
theorem dX5_init_21 : decode cX5_init 21 = .ok (.putfield 18, 3) := by decide +kernel
theorem dX5_init_24 : decode cX5_init 24 = .ok (.aload_n 0, 1) := by decide +kernel
theorem dX5_init_25 : decode cX5_init 25 = .ok (.new 22, 3) := by decide +kernel
theorem dX5_init_28 : decode cX5_init 28 = .ok (.dup, 1) := by decide +kernel
theorem dX5_init_29 : decode cX5_init 29 = .ok (.invokespecial 24, 3) := by decide +kernel
theorem dX5_init_32 : decode cX5_init 32 = .ok (.putfield 25, 3) := by decide +kernel
theorem dX5_init_35 : decode cX5_init 35 = .ok (.aload_n 0, 1) := by decide +kernel
theorem dX5_init_36 : decode cX5_init 36 = .ok (.new 29, 3) := by decide +kernel
theorem dX5_init_39 : decode cX5_init 39 = .ok (.dup, 1) := by decide +kernel
theorem dX5_init_40 : decode cX5_init 40 = .ok (.invokespecial 31, 3) := by decide +kernel
theorem dX5_init_43 : decode cX5_init 43 = .ok (.putfield 32, 3) := by decide +kernel
theorem dX5_init_46 : decode cX5_init 46 = .ok (.aload_n 0, 1) := by decide +kernel
theorem dX5_init_47 : decode cX5_init 47 = .ok (.iconst 0, 1) := by decide +kernel
theorem dX5_init_48 : decode cX5_init 48 = .ok (.putfield 36, 3) := by decide +kernel
theorem dX5_init_51 : decode cX5_init 51 = .ok (.aload_n 0, 1) := by decide +kernel
theorem dX5_init_52 : decode cX5_init 52 = .ok (.iconst 0, 1) := by decide +kernel
theorem dX5_init_53 : decode cX5_init 53 = .ok (.putfield 40, 3) := by decide +kernel
theorem dX5_init_56 : decode cX5_init 56 = .ok (.return_, 1) := by decide +kernel
theorem dX5_put_0 : decode cX5_put 0 = .ok (.aload_n 0, 1) := by decide +kernel
theorem dX5_put_1 : decode cX5_put 1 = .ok (.getfield 10, 3) := by decide +kernel
theorem dX5_put_4 : decode cX5_put 4 = .ok (.lload_n 1, 1) := by decide +kernel
theorem dX5_put_5 : decode cX5_put 5 = .ok (.iload_n 3, 1) := by decide +kernel
theorem dX5_put_6 : decode cX5_put 6 = .ok (.invokevirtual 43, 3) := by decide +kernel
theorem dX5_put_9 : decode cX5_put 9 = .ok (.ireturn, 1) := by decide +kernel
theorem dX5_load_0 : decode cX5_load 0 = .ok (.iload_n 1, 1) := by decide +kernel
theorem dX5_load_1 : decode cX5_load 1 = .ok (.ifCond .lt 18, 3) := by decide +kernel
theorem dX5_load_4 : decode cX5_load 4 = .ok (.iload_n 1, 1) := by decide +kernel
theorem dX5_load_5 : decode cX5_load 5 = .ok (.ldc 47, 2) := by decide +kernel
theorem dX5_load_7 : decode cX5_load 7 = .ok (.if_icmp .gt 12, 3) := by decide +kernel
theorem dX5_load_10 : decode cX5_load 10 = .ok (.aload_n 0, 1) := by decide +kernel
theorem dX5_load_11 : decode cX5_load 11 = .ok (.getfield 36, 3) := by decide +kernel
theorem dX5_load_14 : decode cX5_load 14 = .ok (.bipush 32, 2) := by decide +kernel
theorem dX5_load_16 : decode cX5_load 16 = .ok (.if_icmp .lt 13, 3) := by decide +kernel
theorem dX5_load_19 : decode cX5_load 19 = .ok (.new 48, 3) := by decide +kernel
theorem dX5_load_22 : decode cX5_load 22 = .ok (.dup, 1) := by decide +kernel
theorem dX5_load_23 : decode cX5_load 23 = .ok (.ldc 50, 2) := by decide +kernel
theorem dX5_load_25 : decode cX5_load 25 = .ok (.invokespecial 52, 3) := by decide +kernel
theorem dX5_load_28 : decode cX5_load 28 = .ok (.athrow, 1) := by decide +kernel
theorem dX5_load_29 : decode cX5_load 29 = .ok (.aload_n 0, 1) := by decide +kernel
theorem dX5_load_30 : decode cX5_load 30 = .ok (.getfield 10, 3) := by decide +kernel
theorem dX5_load_33 : decode cX5_load 33 = .ok (.invokestatic 55, 3) := by decide +kernel
theorem dX5_load_36 : decode cX5_load 36 = .ok (.ifCond .eq 17, 3) := by decide +kernel
theorem dX5_load_39 : decode cX5_load 39 = .ok (.new 16, 3) := by decide +kernel
theorem dX5_load_42 : decode cX5_load 42 = .ok (.dup, 1) := by decide +kernel
theorem dX5_load_43 : decode cX5_load 43 = .ok (.aload_n 0, 1) := by decide +kernel
theorem dX5_load_44 : decode cX5_load 44 = .ok (.getfield 10, 3) := by decide +kernel
theorem dX5_load_47 : decode cX5_load 47 = .ok (.invokespecial 61, 3) := by decide +kernel
theorem dX5_load_50 : decode cX5_load 50 = .ok (.goto 4, 3) := by decide +kernel
theorem dX5_load_53 : decode cX5_load 53 = .ok (.aconst_null, 1) := by decide +kernel
theorem dX5_load_54 : decode cX5_load 54 = .ok (.astore_n 2, 1) := by decide +kernel
theorem dX5_load_55 : decode cX5_load 55 = .ok (.aload_n 0, 1) := by decide +kernel
theorem dX5_load_56 : decode cX5_load 56 = .ok (.getfield 10, 3) := by decide +kernel
theorem dX5_load_59 : decode cX5_load 59 = .ok (.invokevirtual 64, 3) := by decide +kernel
theorem dX5_load_62 : decode cX5_load 62 = .ok (.aload_n 0, 1) := by decide +kernel
theorem dX5_load_63 : decode cX5_load 63 = .ok (.aload_n 2, 1) := by decide +kernel
theorem dX5_load_64 : decode cX5_load 64 = .ok (.invokestatic 67, 3) := by decide +kernel
theorem dX5_load_67 : decode cX5_load 67 = .ok (.putfield 40, 3) := by decide +kernel
theorem dX5_load_70 : decode cX5_load 70 = .ok (.aload_n 2, 1) := by decide +kernel
theorem dX5_load_71 : decode cX5_load 71 = .ok (.ifnull 27, 3) := by decide +kernel
theorem dX5_load_74 : decode cX5_load 74 = .ok (.aload_n 0, 1) := by decide +kernel
theorem dX5_load_75 : decode cX5_load 75 = .ok (.getfield 40, 3) := by decide +kernel
theorem dX5_load_78 : decode cX5_load 78 = .ok (.ifCond .ne 20, 3) := by decide +kernel
theorem dX5_load_81 : decode cX5_load 81 = .ok (.aload_n 0, 1) := by decide +kernel
theorem dX5_load_82 : decode cX5_load 82 = .ok (.getfield 25, 3) := by decide +kernel
theorem dX5_load_85 : decode cX5_load 85 = .ok (.aload_n 2, 1) := by decide +kernel
theorem dX5_load_86 : decode cX5_load 86 = .ok (.invokevirtual 71, 3) := by decide +kernel
theorem dX5_load_89 : decode cX5_load 89 = .ok (.ifCond .ne 9, 3) := by decide +kernel
theorem dX5_load_92 : decode cX5_load 92 = .ok (.aload_n 0, 1) := by decide +kernel
theorem dX5_load_93 : decode cX5_load 93 = .ok (.bipush 7, 2) := by decide +kernel
theorem dX5_load_95 : decode cX5_load 95 = .ok (.putfield 40, 3) := by decide +kernel
theorem dX5_load_98 : decode cX5_load 98 = .ok (.aload_n 2, 1) := by decide +kernel
theorem dX5_load_99 : decode cX5_load 99 = .ok (.ifnull 10, 3) := by decide +kernel
theorem dX5_load_102 : decode cX5_load 102 = .ok (.aload_n 0, 1) := by decide +kernel
theorem dX5_load_103 : decode cX5_load 103 = .ok (.getfield 40, 3) := by decide +kernel
theorem dX5_load_106 : decode cX5_load 106 = .ok (.ifCond .eq 13, 3) := by decide +kernel
theorem dX5_load_109 : decode cX5_load 109 = .ok (.new 75, 3) := by decide +kernel
theorem dX5_load_112 : decode cX5_load 112 = .ok (.dup, 1) := by decide +kernel
theorem dX5_load_113 : decode cX5_load 113 = .ok (.ldc 77, 2) := by decide +kernel
theorem dX5_load_115 : decode cX5_load 115 = .ok (.invokespecial 79, 3) := by decide +kernel
theorem dX5_load_118 : decode cX5_load 118 = .ok (.athrow, 1) := by decide +kernel
theorem dX5_load_119 : decode cX5_load 119 = .ok (.aload_n 2, 1) := by decide +kernel
theorem dX5_load_120 : decode cX5_load 120 = .ok (.iload_n 1, 1) := by decide +kernel
theorem dX5_load_121 : decode cX5_load 121 = .ok (.invokevirtual 80, 3) := by decide +kernel
theorem dX5_load_124 : decode cX5_load 124 = .ok (.aload_n 0, 1) := by decide +kernel
theorem dX5_load_125 : decode cX5_load 125 = .ok (.getfield 18, 3) := by decide +kernel
theorem dX5_load_128 : decode cX5_load 128 = .ok (.aload_n 0, 1) := by decide +kernel
theorem dX5_load_129 : decode cX5_load 129 = .ok (.getfield 36, 3) := by decide +kernel
theorem dX5_load_132 : decode cX5_load 132 = .ok (.aload_n 2, 1) := by decide +kernel
theorem dX5_load_133 : decode cX5_load 133 = .ok (.aastore, 1) := by decide +kernel
theorem dX5_load_134 : decode cX5_load 134 = .ok (.aload_n 0, 1) := by decide +kernel
theorem dX5_load_135 : decode cX5_load 135 = .ok (.dup, 1) := by decide +kernel
theorem dX5_load_136 : decode cX5_load 136 = .ok (.getfield 36, 3) := by decide +kernel
theorem dX5_load_139 : decode cX5_load 139 = .ok (.iconst 1, 1) := by decide +kernel
theorem dX5_load_140 : decode cX5_load 140 = .ok (.iadd, 1) := by decide +kernel
theorem dX5_load_141 : decode cX5_load 141 = .ok (.putfield 36, 3) := by decide +kernel
theorem dX5_load_144 : decode cX5_load 144 = .ok (.aload_n 0, 1) := by decide +kernel
theorem dX5_load_145 : decode cX5_load 145 = .ok (.getfield 36, 3) := by decide +kernel
theorem dX5_load_148 : decode cX5_load 148 = .ok (.iconst 1, 1) := by decide +kernel
theorem dX5_load_149 : decode cX5_load 149 = .ok (.isub, 1) := by decide +kernel
theorem dX5_load_150 : decode cX5_load 150 = .ok (.ireturn, 1) := by decide +kernel
theorem dX5_fault_0 : decode cX5_fault 0 = .ok (.aload_n 0, 1) := by decide +kernel
theorem dX5_fault_1 : decode cX5_fault 1 = .ok (.getfield 40, 3) := by decide +kernel
theorem dX5_fault_4 : decode cX5_fault 4 = .ok (.ireturn, 1) := by decide +kernel
theorem dX5_metric_0 : decode cX5_metric 0 = .ok (.aload_n 0, 1) := by decide +kernel
theorem dX5_metric_1 : decode cX5_metric 1 = .ok (.iload_n 1, 1) := by decide +kernel
theorem dX5_metric_2 : decode cX5_metric 2 = .ok (.invokevirtual 84, 3) := by decide +kernel
theorem dX5_metric_5 : decode cX5_metric 5 = .ok (.astore 4, 2) := by decide +kernel
theorem dX5_metric_7 : decode cX5_metric 7 = .ok (.aload 4, 2) := by decide +kernel
theorem dX5_metric_9 : decode cX5_metric 9 = .ok (.ifnull 21, 3) := by decide +kernel
theorem dX5_metric_12 : decode cX5_metric 12 = .ok (.aload 4, 2) := by decide +kernel
theorem dX5_metric_14 : decode cX5_metric 14 = .ok (.iload_n 2, 1) := by decide +kernel
theorem dX5_metric_15 : decode cX5_metric 15 = .ok (.invokevirtual 88, 3) := by decide +kernel
theorem dX5_metric_18 : decode cX5_metric 18 = .ok (.ifCond .eq 12, 3) := by decide +kernel
theorem dX5_metric_21 : decode cX5_metric 21 = .ok (.iload_n 3, 1) := by decide +kernel
theorem dX5_metric_22 : decode cX5_metric 22 = .ok (.ifCond .lt 8, 3) := by decide +kernel
theorem dX5_metric_25 : decode cX5_metric 25 = .ok (.iload_n 3, 1) := by decide +kernel
theorem dX5_metric_26 : decode cX5_metric 26 = .ok (.iconst 5, 1) := by decide +kernel
theorem dX5_metric_27 : decode cX5_metric 27 = .ok (.if_icmp .le 13, 3) := by decide +kernel
theorem dX5_metric_30 : decode cX5_metric 30 = .ok (.new 92, 3) := by decide +kernel
theorem dX5_metric_33 : decode cX5_metric 33 = .ok (.dup, 1) := by decide +kernel
theorem dX5_metric_34 : decode cX5_metric 34 = .ok (.ldc 94, 2) := by decide +kernel
theorem dX5_metric_36 : decode cX5_metric 36 = .ok (.invokespecial 96, 3) := by decide +kernel
theorem dX5_metric_39 : decode cX5_metric 39 = .ok (.athrow, 1) := by decide +kernel
theorem dX5_metric_40 : decode cX5_metric 40 = .ok (.aload 4, 2) := by decide +kernel
theorem dX5_metric_42 : decode cX5_metric 42 = .ok (.iload_n 2, 1) := by decide +kernel
theorem dX5_metric_43 : decode cX5_metric 43 = .ok (.iload_n 3, 1) := by decide +kernel
theorem dX5_metric_44 : decode cX5_metric 44 = .ok (.invokevirtual 97, 3) := by decide +kernel
theorem dX5_metric_47 : decode cX5_metric 47 = .ok (.ireturn, 1) := by decide +kernel
theorem dX5_parameter_0 : decode cX5_parameter 0 = .ok (.aload_n 0, 1) := by decide +kernel
theorem dX5_parameter_1 : decode cX5_parameter 1 = .ok (.iload_n 1, 1) := by decide +kernel
theorem dX5_parameter_2 : decode cX5_parameter 2 = .ok (.invokevirtual 84, 3) := by decide +kernel
theorem dX5_parameter_5 : decode cX5_parameter 5 = .ok (.astore_n 3, 1) := by decide +kernel
theorem dX5_parameter_6 : decode cX5_parameter 6 = .ok (.aload_n 3, 1) := by decide +kernel
theorem dX5_parameter_7 : decode cX5_parameter 7 = .ok (.ifnull 8, 3) := by decide +kernel
theorem dX5_parameter_10 : decode cX5_parameter 10 = .ok (.iload_n 2, 1) := by decide +kernel
theorem dX5_parameter_11 : decode cX5_parameter 11 = .ok (.iconst 1, 1) := by decide +kernel
theorem dX5_parameter_12 : decode cX5_parameter 12 = .ok (.if_icmp .ge 13, 3) := by decide +kernel
theorem dX5_parameter_15 : decode cX5_parameter 15 = .ok (.new 92, 3) := by decide +kernel
theorem dX5_parameter_18 : decode cX5_parameter 18 = .ok (.dup, 1) := by decide +kernel
theorem dX5_parameter_19 : decode cX5_parameter 19 = .ok (.ldc 101, 2) := by decide +kernel
theorem dX5_parameter_21 : decode cX5_parameter 21 = .ok (.invokespecial 96, 3) := by decide +kernel
theorem dX5_parameter_24 : decode cX5_parameter 24 = .ok (.athrow, 1) := by decide +kernel
theorem dX5_parameter_25 : decode cX5_parameter 25 = .ok (.aload_n 3, 1) := by decide +kernel
theorem dX5_parameter_26 : decode cX5_parameter 26 = .ok (.iload_n 2, 1) := by decide +kernel
theorem dX5_parameter_27 : decode cX5_parameter 27 = .ok (.invokevirtual 103, 3) := by decide +kernel
theorem dX5_parameter_30 : decode cX5_parameter 30 = .ok (.ireturn, 1) := by decide +kernel
theorem dX5_set_0 : decode cX5_set 0 = .ok (.aload_n 0, 1) := by decide +kernel
theorem dX5_set_1 : decode cX5_set 1 = .ok (.iload_n 1, 1) := by decide +kernel
theorem dX5_set_2 : decode cX5_set 2 = .ok (.invokevirtual 84, 3) := by decide +kernel
theorem dX5_set_5 : decode cX5_set 5 = .ok (.astore_n 2, 1) := by decide +kernel
theorem dX5_set_6 : decode cX5_set 6 = .ok (.aload_n 2, 1) := by decide +kernel
theorem dX5_set_7 : decode cX5_set 7 = .ok (.ifnull 22, 3) := by decide +kernel
theorem dX5_set_10 : decode cX5_set 10 = .ok (.aload_n 0, 1) := by decide +kernel
theorem dX5_set_11 : decode cX5_set 11 = .ok (.getfield 32, 3) := by decide +kernel
theorem dX5_set_14 : decode cX5_set 14 = .ok (.aload_n 2, 1) := by decide +kernel
theorem dX5_set_15 : decode cX5_set 15 = .ok (.aload_n 0, 1) := by decide +kernel
theorem dX5_set_16 : decode cX5_set 16 = .ok (.getfield 10, 3) := by decide +kernel
theorem dX5_set_19 : decode cX5_set 19 = .ok (.invokevirtual 107, 3) := by decide +kernel
theorem dX5_set_22 : decode cX5_set 22 = .ok (.ifCond .eq 7, 3) := by decide +kernel
theorem dX5_set_25 : decode cX5_set 25 = .ok (.iconst 1, 1) := by decide +kernel
theorem dX5_set_26 : decode cX5_set 26 = .ok (.goto 4, 3) := by decide +kernel
theorem dX5_set_29 : decode cX5_set 29 = .ok (.iconst 0, 1) := by decide +kernel
theorem dX5_set_30 : decode cX5_set 30 = .ok (.istore_n 3, 1) := by decide +kernel
theorem dX5_set_31 : decode cX5_set 31 = .ok (.aload_n 0, 1) := by decide +kernel
theorem dX5_set_32 : decode cX5_set 32 = .ok (.getfield 10, 3) := by decide +kernel
theorem dX5_set_35 : decode cX5_set 35 = .ok (.invokevirtual 64, 3) := by decide +kernel
theorem dX5_set_38 : decode cX5_set 38 = .ok (.aload_n 2, 1) := by decide +kernel
theorem dX5_set_39 : decode cX5_set 39 = .ok (.ifnonnull 20, 3) := by decide +kernel
theorem dX5_set_42 : decode cX5_set 42 = .ok (.aload_n 0, 1) := by decide +kernel
theorem dX5_set_43 : decode cX5_set 43 = .ok (.getfield 32, 3) := by decide +kernel
theorem dX5_set_46 : decode cX5_set 46 = .ok (.invokevirtual 111, 3) := by decide +kernel
theorem dX5_set_49 : decode cX5_set 49 = .ok (.new 92, 3) := by decide +kernel
theorem dX5_set_52 : decode cX5_set 52 = .ok (.dup, 1) := by decide +kernel
theorem dX5_set_53 : decode cX5_set 53 = .ok (.ldc 114, 2) := by decide +kernel
theorem dX5_set_55 : decode cX5_set 55 = .ok (.invokespecial 96, 3) := by decide +kernel
theorem dX5_set_58 : decode cX5_set 58 = .ok (.athrow, 1) := by decide +kernel
theorem dX5_set_59 : decode cX5_set 59 = .ok (.iload_n 3, 1) := by decide +kernel
theorem dX5_set_60 : decode cX5_set 60 = .ok (.ifCond .ne 20, 3) := by decide +kernel
theorem dX5_set_63 : decode cX5_set 63 = .ok (.aload_n 0, 1) := by decide +kernel
theorem dX5_set_64 : decode cX5_set 64 = .ok (.getfield 32, 3) := by decide +kernel
theorem dX5_set_67 : decode cX5_set 67 = .ok (.invokevirtual 111, 3) := by decide +kernel
theorem dX5_set_70 : decode cX5_set 70 = .ok (.new 75, 3) := by decide +kernel
theorem dX5_set_73 : decode cX5_set 73 = .ok (.dup, 1) := by decide +kernel
theorem dX5_set_74 : decode cX5_set 74 = .ok (.ldc 116, 2) := by decide +kernel
theorem dX5_set_76 : decode cX5_set 76 = .ok (.invokespecial 79, 3) := by decide +kernel
theorem dX5_set_79 : decode cX5_set 79 = .ok (.athrow, 1) := by decide +kernel
theorem dX5_set_80 : decode cX5_set 80 = .ok (.aload_n 0, 1) := by decide +kernel
theorem dX5_set_81 : decode cX5_set 81 = .ok (.getfield 32, 3) := by decide +kernel
theorem dX5_set_84 : decode cX5_set 84 = .ok (.aload_n 2, 1) := by decide +kernel
theorem dX5_set_85 : decode cX5_set 85 = .ok (.invokevirtual 118, 3) := by decide +kernel
theorem dX5_set_88 : decode cX5_set 88 = .ok (.ifCond .ne 20, 3) := by decide +kernel
theorem dX5_set_91 : decode cX5_set 91 = .ok (.aload_n 0, 1) := by decide +kernel
theorem dX5_set_92 : decode cX5_set 92 = .ok (.getfield 32, 3) := by decide +kernel
theorem dX5_set_95 : decode cX5_set 95 = .ok (.invokevirtual 111, 3) := by decide +kernel
theorem dX5_set_98 : decode cX5_set 98 = .ok (.new 48, 3) := by decide +kernel
theorem dX5_set_101 : decode cX5_set 101 = .ok (.dup, 1) := by decide +kernel
theorem dX5_set_102 : decode cX5_set 102 = .ok (.ldc 121, 2) := by decide +kernel
theorem dX5_set_104 : decode cX5_set 104 = .ok (.invokespecial 52, 3) := by decide +kernel
theorem dX5_set_107 : decode cX5_set 107 = .ok (.athrow, 1) := by decide +kernel
theorem dX5_set_108 : decode cX5_set 108 = .ok (.aload_n 0, 1) := by decide +kernel
theorem dX5_set_109 : decode cX5_set 109 = .ok (.getfield 32, 3) := by decide +kernel
theorem dX5_set_112 : decode cX5_set 112 = .ok (.invokevirtual 123, 3) := by decide +kernel
theorem dX5_set_115 : decode cX5_set 115 = .ok (.ireturn, 1) := by decide +kernel
theorem dX5_item_0 : decode cX5_item 0 = .ok (.aload_n 0, 1) := by decide +kernel
theorem dX5_item_1 : decode cX5_item 1 = .ok (.getfield 32, 3) := by decide +kernel
theorem dX5_item_4 : decode cX5_item 4 = .ok (.iload_n 1, 1) := by decide +kernel
theorem dX5_item_5 : decode cX5_item 5 = .ok (.iload_n 2, 1) := by decide +kernel
theorem dX5_item_6 : decode cX5_item 6 = .ok (.invokevirtual 127, 3) := by decide +kernel
theorem dX5_item_9 : decode cX5_item 9 = .ok (.ireturn, 1) := by decide +kernel
theorem dX5_width_0 : decode cX5_width 0 = .ok (.aload_n 0, 1) := by decide +kernel
theorem dX5_width_1 : decode cX5_width 1 = .ok (.getfield 32, 3) := by decide +kernel
theorem dX5_width_4 : decode cX5_width 4 = .ok (.invokevirtual 130, 3) := by decide +kernel
theorem dX5_width_7 : decode cX5_width 7 = .ok (.lreturn, 1) := by decide +kernel
theorem dX5_count_0 : decode cX5_count 0 = .ok (.iload_n 1, 1) := by decide +kernel
theorem dX5_count_1 : decode cX5_count 1 = .ok (.ifCond .ne 8, 3) := by decide +kernel
theorem dX5_count_4 : decode cX5_count 4 = .ok (.aload_n 0, 1) := by decide +kernel
theorem dX5_count_5 : decode cX5_count 5 = .ok (.getfield 36, 3) := by decide +kernel
theorem dX5_count_8 : decode cX5_count 8 = .ok (.ireturn, 1) := by decide +kernel
theorem dX5_count_9 : decode cX5_count 9 = .ok (.iload_n 1, 1) := by decide +kernel
theorem dX5_count_10 : decode cX5_count 10 = .ok (.iconst 1, 1) := by decide +kernel
theorem dX5_count_11 : decode cX5_count 11 = .ok (.if_icmp .ne 11, 3) := by decide +kernel
theorem dX5_count_14 : decode cX5_count 14 = .ok (.aload_n 0, 1) := by decide +kernel
theorem dX5_count_15 : decode cX5_count 15 = .ok (.getfield 10, 3) := by decide +kernel
theorem dX5_count_18 : decode cX5_count 18 = .ok (.invokevirtual 134, 3) := by decide +kernel
theorem dX5_count_21 : decode cX5_count 21 = .ok (.ireturn, 1) := by decide +kernel
theorem dX5_count_22 : decode cX5_count 22 = .ok (.iload_n 1, 1) := by decide +kernel
theorem dX5_count_23 : decode cX5_count 23 = .ok (.iconst 2, 1) := by decide +kernel
theorem dX5_count_24 : decode cX5_count 24 = .ok (.if_icmp .lt 8, 3) := by decide +kernel
theorem dX5_count_27 : decode cX5_count 27 = .ok (.iload_n 1, 1) := by decide +kernel
theorem dX5_count_28 : decode cX5_count 28 = .ok (.iconst 5, 1) := by decide +kernel
theorem dX5_count_29 : decode cX5_count 29 = .ok (.if_icmp .le 5, 3) := by decide +kernel
theorem dX5_count_32 : decode cX5_count 32 = .ok (.iconst (-1), 1) := by decide +kernel
theorem dX5_count_33 : decode cX5_count 33 = .ok (.ireturn, 1) := by decide +kernel
theorem dX5_count_34 : decode cX5_count 34 = .ok (.aload_n 0, 1) := by decide +kernel
theorem dX5_count_35 : decode cX5_count 35 = .ok (.aload_n 0, 1) := by decide +kernel
theorem dX5_count_36 : decode cX5_count 36 = .ok (.getfield 36, 3) := by decide +kernel
theorem dX5_count_39 : decode cX5_count 39 = .ok (.iconst 1, 1) := by decide +kernel
theorem dX5_count_40 : decode cX5_count 40 = .ok (.isub, 1) := by decide +kernel
theorem dX5_count_41 : decode cX5_count 41 = .ok (.invokevirtual 84, 3) := by decide +kernel
theorem dX5_count_44 : decode cX5_count 44 = .ok (.astore_n 2, 1) := by decide +kernel
theorem dX5_count_45 : decode cX5_count 45 = .ok (.aload_n 2, 1) := by decide +kernel
theorem dX5_count_46 : decode cX5_count 46 = .ok (.ifnonnull 7, 3) := by decide +kernel
theorem dX5_count_49 : decode cX5_count 49 = .ok (.iconst 0, 1) := by decide +kernel
theorem dX5_count_50 : decode cX5_count 50 = .ok (.goto 8, 3) := by decide +kernel
theorem dX5_count_53 : decode cX5_count 53 = .ok (.aload_n 2, 1) := by decide +kernel
theorem dX5_count_54 : decode cX5_count 54 = .ok (.iload_n 1, 1) := by decide +kernel
theorem dX5_count_55 : decode cX5_count 55 = .ok (.invokevirtual 137, 3) := by decide +kernel
theorem dX5_count_58 : decode cX5_count 58 = .ok (.ireturn, 1) := by decide +kernel
theorem dX5_fontAt_0 : decode cX5_fontAt 0 = .ok (.iload_n 1, 1) := by decide +kernel
theorem dX5_fontAt_1 : decode cX5_fontAt 1 = .ok (.ifCond .lt 26, 3) := by decide +kernel
theorem dX5_fontAt_4 : decode cX5_fontAt 4 = .ok (.iload_n 1, 1) := by decide +kernel
theorem dX5_fontAt_5 : decode cX5_fontAt 5 = .ok (.aload_n 0, 1) := by decide +kernel
theorem dX5_fontAt_6 : decode cX5_fontAt 6 = .ok (.getfield 36, 3) := by decide +kernel
theorem dX5_fontAt_9 : decode cX5_fontAt 9 = .ok (.if_icmp .ge 18, 3) := by decide +kernel
theorem dX5_fontAt_12 : decode cX5_fontAt 12 = .ok (.iload_n 1, 1) := by decide +kernel
theorem dX5_fontAt_13 : decode cX5_fontAt 13 = .ok (.bipush 32, 2) := by decide +kernel
theorem dX5_fontAt_15 : decode cX5_fontAt 15 = .ok (.if_icmp .ge 12, 3) := by decide +kernel
theorem dX5_fontAt_18 : decode cX5_fontAt 18 = .ok (.aload_n 0, 1) := by decide +kernel
theorem dX5_fontAt_19 : decode cX5_fontAt 19 = .ok (.getfield 18, 3) := by decide +kernel
theorem dX5_fontAt_22 : decode cX5_fontAt 22 = .ok (.iload_n 1, 1) := by decide +kernel
theorem dX5_fontAt_23 : decode cX5_fontAt 23 = .ok (.aaload, 1) := by decide +kernel
theorem dX5_fontAt_24 : decode cX5_fontAt 24 = .ok (.goto 4, 3) := by decide +kernel
theorem dX5_fontAt_27 : decode cX5_fontAt 27 = .ok (.aconst_null, 1) := by decide +kernel
theorem dX5_fontAt_28 : decode cX5_fontAt 28 = .ok (.areturn, 1) := by decide +kernel
theorem dX6_init_0 : decode cX6_init 0 = .ok (.aload_n 0, 1) := by decide +kernel
theorem dX6_init_1 : decode cX6_init 1 = .ok (.invokespecial 1, 3) := by decide +kernel
theorem dX6_init_4 : decode cX6_init 4 = .ok (.aload_n 0, 1) := by decide +kernel
theorem dX6_init_5 : decode cX6_init 5 = .ok (.ldc 7, 2) := by decide +kernel
theorem dX6_init_7 : decode cX6_init 7 = .ok (.newarray .int, 2) := by decide +kernel
theorem dX6_init_9 : decode cX6_init 9 = .ok (.putfield 8, 3) := by decide +kernel
theorem dX6_init_12 : decode cX6_init 12 = .ok (.aload_n 0, 1) := by decide +kernel
theorem dX6_init_13 : decode cX6_init 13 = .ok (.bipush 33, 2) := by decide +kernel
theorem dX6_init_15 : decode cX6_init 15 = .ok (.newarray .int, 2) := by decide +kernel
theorem dX6_init_17 : decode cX6_init 17 = .ok (.putfield 14, 3) := by decide +kernel
theorem dX6_init_20 : decode cX6_init 20 = .ok (.aload_n 0, 1) := by decide +kernel
theorem dX6_init_21 : decode cX6_init 21 = .ok (.bipush 32, 2) := by decide +kernel
theorem dX6_init_23 : decode cX6_init 23 = .ok (.newarray .int, 2) := by decide +kernel
theorem dX6_init_25 : decode cX6_init 25 = .ok (.putfield 17, 3) := by decide +kernel
theorem dX6_init_28 : decode cX6_init 28 = .ok (.aload_n 0, 1) := by decide +kernel
theorem dX6_init_29 : decode cX6_init 29 = .ok (.ldc 20, 2) := by decide +kernel
theorem dX6_init_31 : decode cX6_init 31 = .ok (.newarray .int, 2) := by decide +kernel
theorem dX6_init_33 : decode cX6_init 33 = .ok (.putfield 21, 3) := by decide +kernel
theorem dX6_init_36 : decode cX6_init 36 = .ok (.aload_n 0, 1) := by decide +kernel
theorem dX6_init_37 : decode cX6_init 37 = .ok (.ldc 20, 2) := by decide +kernel
theorem dX6_init_39 : decode cX6_init 39 = .ok (.newarray .int, 2) := by decide +kernel
theorem dX6_init_41 : decode cX6_init 41 = .ok (.putfield 24, 3) := by decide +kernel
theorem dX6_init_44 : decode cX6_init 44 = .ok (.aload_n 0, 1) := by decide +kernel
theorem dX6_init_45 : decode cX6_init 45 = .ok (.sipush 257, 3) := by decide +kernel
theorem dX6_init_48 : decode cX6_init 48 = .ok (.newarray .boolean, 2) := by decide +kernel
theorem dX6_init_50 : decode cX6_init 50 = .ok (.putfield 27, 3) := by decide +kernel
theorem dX6_init_53 : decode cX6_init 53 = .ok (.aload_n 0, 1) := by decide +kernel
theorem dX6_init_54 : decode cX6_init 54 = .ok (.sipush 1002, 3) := by decide +kernel
theorem dX6_init_57 : decode cX6_init 57 = .ok (.newarray .int, 2) := by decide +kernel
theorem dX6_init_59 : decode cX6_init 59 = .ok (.putfield 31, 3) := by decide +kernel
theorem dX6_init_62 : decode cX6_init 62 = .ok (.aload_n 0, 1) := by decide +kernel
theorem dX6_init_63 : decode cX6_init 63 = .ok (.sipush 1002, 3) := by decide +kernel
theorem dX6_init_66 : decode cX6_init 66 = .ok (.newarray .int, 2) := by decide +kernel
theorem dX6_init_68 : decode cX6_init 68 = .ok (.putfield 34, 3) := by decide +kernel
theorem dX6_init_71 : decode cX6_init 71 = .ok (.return_, 1) := by decide +kernel
theorem dX6_thrown_0 : decode cX6_thrown 0 = .ok (.aload_n 0, 1) := by decide +kernel
theorem dX6_thrown_1 : decode cX6_thrown 1 = .ok (.getfield 37, 3) := by decide +kernel
theorem dX6_thrown_4 : decode cX6_thrown 4 = .ok (.ireturn, 1) := by decide +kernel
theorem dX6_fails_0 : decode cX6_fails 0 = .ok (.aload_n 0, 1) := by decide +kernel
theorem dX6_fails_1 : decode cX6_fails 1 = .ok (.iload_n 1, 1) := by decide +kernel
theorem dX6_fails_2 : decode cX6_fails 2 = .ok (.putfield 37, 3) := by decide +kernel
theorem dX6_fails_5 : decode cX6_fails 5 = .ok (.iconst 0, 1) := by decide +kernel
theorem dX6_fails_6 : decode cX6_fails 6 = .ok (.ireturn, 1) := by decide +kernel
theorem dX6_put_0 : decode cX6_put 0 = .ok (.aload_n 0, 1) := by decide +kernel
theorem dX6_put_1 : decode cX6_put 1 = .ok (.iconst 0, 1) := by decide +kernel
theorem dX6_put_2 : decode cX6_put 2 = .ok (.putfield 37, 3) := by decide +kernel
theorem dX6_put_5 : decode cX6_put 5 = .ok (.iload_n 3, 1) := by decide +kernel
theorem dX6_put_6 : decode cX6_put 6 = .ok (.iconst 1, 1) := by decide +kernel
theorem dX6_put_7 : decode cX6_put 7 = .ok (.if_icmp .lt 20, 3) := by decide +kernel
theorem dX6_put_10 : decode cX6_put 10 = .ok (.iload_n 3, 1) := by decide +kernel
theorem dX6_put_11 : decode cX6_put 11 = .ok (.bipush 8, 2) := by decide +kernel
theorem dX6_put_13 : decode cX6_put 13 = .ok (.if_icmp .gt 14, 3) := by decide +kernel
theorem dX6_put_16 : decode cX6_put 16 = .ok (.aload_n 0, 1) := by decide +kernel
theorem dX6_put_17 : decode cX6_put 17 = .ok (.getfield 41, 3) := by decide +kernel
theorem dX6_put_20 : decode cX6_put 20 = .ok (.iload_n 3, 1) := by decide +kernel
theorem dX6_put_21 : decode cX6_put 21 = .ok (.iadd, 1) := by decide +kernel
theorem dX6_put_22 : decode cX6_put 22 = .ok (.ldc 44, 2) := by decide +kernel
theorem dX6_put_24 : decode cX6_put 24 = .ok (.if_icmp .le 5, 3) := by decide +kernel
theorem dX6_put_27 : decode cX6_put 27 = .ok (.iconst 0, 1) := by decide +kernel
theorem dX6_put_28 : decode cX6_put 28 = .ok (.ireturn, 1) := by decide +kernel
theorem dX6_put_29 : decode cX6_put 29 = .ok (.iload_n 3, 1) := by decide +kernel
theorem dX6_put_30 : decode cX6_put 30 = .ok (.iconst 1, 1) := by decide +kernel
theorem dX6_put_31 : decode cX6_put 31 = .ok (.isub, 1) := by decide +kernel
theorem dX6_put_32 : decode cX6_put 32 = .ok (.istore 4, 2) := by decide +kernel
theorem dX6_put_34 : decode cX6_put 34 = .ok (.iload 4, 2) := by decide +kernel
theorem dX6_put_36 : decode cX6_put 36 = .ok (.ifCond .lt 50, 3) := by decide +kernel
theorem dX6_put_39 : decode cX6_put 39 = .ok (.aload_n 0, 1) := by decide +kernel
theorem dX6_put_40 : decode cX6_put 40 = .ok (.getfield 8, 3) := by decide +kernel
theorem dX6_put_43 : decode cX6_put 43 = .ok (.aload_n 0, 1) := by decide +kernel
theorem dX6_put_44 : decode cX6_put 44 = .ok (.getfield 14, 3) := by decide +kernel
theorem dX6_put_47 : decode cX6_put 47 = .ok (.aload_n 0, 1) := by decide +kernel
theorem dX6_put_48 : decode cX6_put 48 = .ok (.getfield 45, 3) := by decide +kernel
theorem dX6_put_51 : decode cX6_put 51 = .ok (.iaload, 1) := by decide +kernel
theorem dX6_put_52 : decode cX6_put 52 = .ok (.aload_n 0, 1) := by decide +kernel
theorem dX6_put_53 : decode cX6_put 53 = .ok (.getfield 41, 3) := by decide +kernel
theorem dX6_put_56 : decode cX6_put 56 = .ok (.iadd, 1) := by decide +kernel
theorem dX6_put_57 : decode cX6_put 57 = .ok (.lload_n 1, 1) := by decide +kernel
theorem dX6_put_58 : decode cX6_put 58 = .ok (.bipush 8, 2) := by decide +kernel
theorem dX6_put_60 : decode cX6_put 60 = .ok (.iload 4, 2) := by decide +kernel
theorem dX6_put_62 : decode cX6_put 62 = .ok (.imul, 1) := by decide +kernel
theorem dX6_put_63 : decode cX6_put 63 = .ok (.lshr, 1) := by decide +kernel
theorem dX6_put_64 : decode cX6_put 64 = .ok (.ldc2_w 48, 3) := by decide +kernel
theorem dX6_put_67 : decode cX6_put 67 = .ok (.land, 1) := by decide +kernel
theorem dX6_put_68 : decode cX6_put 68 = .ok (.l2i, 1) := by decide +kernel
theorem dX6_put_69 : decode cX6_put 69 = .ok (.iastore, 1) := by decide +kernel
theorem dX6_put_70 : decode cX6_put 70 = .ok (.aload_n 0, 1) := by decide +kernel
theorem dX6_put_71 : decode cX6_put 71 = .ok (.dup, 1) := by decide +kernel
theorem dX6_put_72 : decode cX6_put 72 = .ok (.getfield 41, 3) := by decide +kernel
theorem dX6_put_75 : decode cX6_put 75 = .ok (.iconst 1, 1) := by decide +kernel
theorem dX6_put_76 : decode cX6_put 76 = .ok (.iadd, 1) := by decide +kernel
theorem dX6_put_77 : decode cX6_put 77 = .ok (.putfield 41, 3) := by decide +kernel
theorem dX6_put_80 : decode cX6_put 80 = .ok (.iinc 4 (-1), 3) := by decide +kernel
theorem dX6_put_83 : decode cX6_put 83 = .ok (.goto (-49), 3) := by decide +kernel
theorem dX6_put_86 : decode cX6_put 86 = .ok (.iconst 1, 1) := by decide +kernel
theorem dX6_put_87 : decode cX6_put 87 = .ok (.ireturn, 1) := by decide +kernel
theorem dX6_byteAt_0 : decode cX6_byteAt 0 = .ok (.aload_n 0, 1) := by decide +kernel
theorem dX6_byteAt_1 : decode cX6_byteAt 1 = .ok (.getfield 8, 3) := by decide +kernel
theorem dX6_byteAt_4 : decode cX6_byteAt 4 = .ok (.aload_n 0, 1) := by decide +kernel
theorem dX6_byteAt_5 : decode cX6_byteAt 5 = .ok (.getfield 50, 3) := by decide +kernel
theorem dX6_byteAt_8 : decode cX6_byteAt 8 = .ok (.iload_n 1, 1) := by decide +kernel
theorem dX6_byteAt_9 : decode cX6_byteAt 9 = .ok (.iadd, 1) := by decide +kernel
theorem dX6_byteAt_10 : decode cX6_byteAt 10 = .ok (.iaload, 1) := by decide +kernel
theorem dX6_byteAt_11 : decode cX6_byteAt 11 = .ok (.ireturn, 1) := by decide +kernel
theorem dX6_half_0 : decode cX6_half 0 = .ok (.sipush 256, 3) := by decide +kernel
theorem dX6_half_3 : decode cX6_half 3 = .ok (.aload_n 0, 1) := by decide +kernel
theorem dX6_half_4 : decode cX6_half 4 = .ok (.iconst 2, 1) := by decide +kernel
theorem dX6_half_5 : decode cX6_half 5 = .ok (.iload_n 1, 1) := by decide +kernel
theorem dX6_half_6 : decode cX6_half 6 = .ok (.imul, 1) := by decide +kernel
theorem dX6_half_7 : decode cX6_half 7 = .ok (.invokevirtual 53, 3) := by decide +kernel
theorem dX6_half_10 : decode cX6_half 10 = .ok (.imul, 1) := by decide +kernel
theorem dX6_half_11 : decode cX6_half 11 = .ok (.aload_n 0, 1) := by decide +kernel
theorem dX6_half_12 : decode cX6_half 12 = .ok (.iconst 2, 1) := by decide +kernel
theorem dX6_half_13 : decode cX6_half 13 = .ok (.iload_n 1, 1) := by decide +kernel
theorem dX6_half_14 : decode cX6_half 14 = .ok (.imul, 1) := by decide +kernel
theorem dX6_half_15 : decode cX6_half 15 = .ok (.iconst 1, 1) := by decide +kernel
theorem dX6_half_16 : decode cX6_half 16 = .ok (.iadd, 1) := by decide +kernel
theorem dX6_half_17 : decode cX6_half 17 = .ok (.invokevirtual 53, 3) := by decide +kernel
theorem dX6_half_20 : decode cX6_half 20 = .ok (.iadd, 1) := by decide +kernel
theorem dX6_half_21 : decode cX6_half 21 = .ok (.ireturn, 1) := by decide +kernel
theorem dX6_word_0 : decode cX6_word 0 = .ok (.aload_n 0, 1) := by decide +kernel
theorem dX6_word_1 : decode cX6_word 1 = .ok (.iconst 4, 1) := by decide +kernel
theorem dX6_word_2 : decode cX6_word 2 = .ok (.iload_n 1, 1) := by decide +kernel
theorem dX6_word_3 : decode cX6_word 3 = .ok (.imul, 1) := by decide +kernel
theorem dX6_word_4 : decode cX6_word 4 = .ok (.invokevirtual 53, 3) := by decide +kernel
theorem dX6_word_7 : decode cX6_word 7 = .ok (.bipush 24, 2) := by decide +kernel
theorem dX6_word_9 : decode cX6_word 9 = .ok (.ishl, 1) := by decide +kernel
theorem dX6_word_10 : decode cX6_word 10 = .ok (.aload_n 0, 1) := by decide +kernel
theorem dX6_word_11 : decode cX6_word 11 = .ok (.iconst 4, 1) := by decide +kernel
theorem dX6_word_12 : decode cX6_word 12 = .ok (.iload_n 1, 1) := by decide +kernel
theorem dX6_word_13 : decode cX6_word 13 = .ok (.imul, 1) := by decide +kernel
theorem dX6_word_14 : decode cX6_word 14 = .ok (.iconst 1, 1) := by decide +kernel
theorem dX6_word_15 : decode cX6_word 15 = .ok (.iadd, 1) := by decide +kernel
theorem dX6_word_16 : decode cX6_word 16 = .ok (.invokevirtual 53, 3) := by decide +kernel
theorem dX6_word_19 : decode cX6_word 19 = .ok (.bipush 16, 2) := by decide +kernel
theorem dX6_word_21 : decode cX6_word 21 = .ok (.ishl, 1) := by decide +kernel
theorem dX6_word_22 : decode cX6_word 22 = .ok (.ior, 1) := by decide +kernel
theorem dX6_word_23 : decode cX6_word 23 = .ok (.aload_n 0, 1) := by decide +kernel
theorem dX6_word_24 : decode cX6_word 24 = .ok (.iconst 4, 1) := by decide +kernel
theorem dX6_word_25 : decode cX6_word 25 = .ok (.iload_n 1, 1) := by decide +kernel
theorem dX6_word_26 : decode cX6_word 26 = .ok (.imul, 1) := by decide +kernel
theorem dX6_word_27 : decode cX6_word 27 = .ok (.iconst 2, 1) := by decide +kernel
theorem dX6_word_28 : decode cX6_word 28 = .ok (.iadd, 1) := by decide +kernel
theorem dX6_word_29 : decode cX6_word 29 = .ok (.invokevirtual 53, 3) := by decide +kernel
theorem dX6_word_32 : decode cX6_word 32 = .ok (.bipush 8, 2) := by decide +kernel
theorem dX6_word_34 : decode cX6_word 34 = .ok (.ishl, 1) := by decide +kernel
theorem dX6_word_35 : decode cX6_word 35 = .ok (.ior, 1) := by decide +kernel
theorem dX6_word_36 : decode cX6_word 36 = .ok (.aload_n 0, 1) := by decide +kernel
theorem dX6_word_37 : decode cX6_word 37 = .ok (.iconst 4, 1) := by decide +kernel
theorem dX6_word_38 : decode cX6_word 38 = .ok (.iload_n 1, 1) := by decide +kernel
theorem dX6_word_39 : decode cX6_word 39 = .ok (.imul, 1) := by decide +kernel
theorem dX6_word_40 : decode cX6_word 40 = .ok (.iconst 3, 1) := by decide +kernel
theorem dX6_word_41 : decode cX6_word 41 = .ok (.iadd, 1) := by decide +kernel
theorem dX6_word_42 : decode cX6_word 42 = .ok (.invokevirtual 53, 3) := by decide +kernel
theorem dX6_word_45 : decode cX6_word 45 = .ok (.ior, 1) := by decide +kernel
theorem dX6_word_46 : decode cX6_word 46 = .ok (.ireturn, 1) := by decide +kernel
theorem dX6_characters_0 : decode cX6_characters 0 = .ok (.aload_n 0, 1) := by decide +kernel
theorem dX6_characters_1 : decode cX6_characters 1 = .ok (.iconst 3, 1) := by decide +kernel
theorem dX6_characters_2 : decode cX6_characters 2 = .ok (.invokevirtual 57, 3) := by decide +kernel
theorem dX6_characters_5 : decode cX6_characters 5 = .ok (.aload_n 0, 1) := by decide +kernel
theorem dX6_characters_6 : decode cX6_characters 6 = .ok (.iconst 2, 1) := by decide +kernel
theorem dX6_characters_7 : decode cX6_characters 7 = .ok (.invokevirtual 57, 3) := by decide +kernel
theorem dX6_characters_10 : decode cX6_characters 10 = .ok (.isub, 1) := by decide +kernel
theorem dX6_characters_11 : decode cX6_characters 11 = .ok (.iconst 1, 1) := by decide +kernel
theorem dX6_characters_12 : decode cX6_characters 12 = .ok (.iadd, 1) := by decide +kernel
theorem dX6_characters_13 : decode cX6_characters 13 = .ok (.ireturn, 1) := by decide +kernel
theorem dX6_start_0 : decode cX6_start 0 = .ok (.bipush 6, 2) := by decide +kernel
theorem dX6_start_2 : decode cX6_start 2 = .ok (.istore_n 2, 1) := by decide +kernel
theorem dX6_start_3 : decode cX6_start 3 = .ok (.iconst 0, 1) := by decide +kernel
theorem dX6_start_4 : decode cX6_start 4 = .ok (.istore_n 3, 1) := by decide +kernel
theorem dX6_start_5 : decode cX6_start 5 = .ok (.iload_n 3, 1) := by decide +kernel
theorem dX6_start_6 : decode cX6_start 6 = .ok (.iload_n 1, 1) := by decide +kernel
theorem dX6_start_7 : decode cX6_start 7 = .ok (.if_icmp .ge 43, 3) := by decide +kernel
theorem dX6_start_10 : decode cX6_start 10 = .ok (.iload_n 2, 1) := by decide +kernel
theorem dX6_start_11 : decode cX6_start 11 = .ok (.iload_n 3, 1) := by decide +kernel
theorem dX6_start_12 : decode cX6_start 12 = .ok (.ifCond .ne 11, 3) := by decide +kernel
theorem dX6_start_15 : decode cX6_start 15 = .ok (.aload_n 0, 1) := by decide +kernel
theorem dX6_start_16 : decode cX6_start 16 = .ok (.iconst 1, 1) := by decide +kernel
theorem dX6_start_17 : decode cX6_start 17 = .ok (.invokevirtual 57, 3) := by decide +kernel
theorem dX6_start_20 : decode cX6_start 20 = .ok (.goto 22, 3) := by decide +kernel
theorem dX6_start_23 : decode cX6_start 23 = .ok (.iload_n 3, 1) := by decide +kernel
theorem dX6_start_24 : decode cX6_start 24 = .ok (.iconst 1, 1) := by decide +kernel
theorem dX6_start_25 : decode cX6_start 25 = .ok (.if_icmp .ne 10, 3) := by decide +kernel
theorem dX6_start_28 : decode cX6_start 28 = .ok (.aload_n 0, 1) := by decide +kernel
theorem dX6_start_29 : decode cX6_start 29 = .ok (.invokevirtual 60, 3) := by decide +kernel
theorem dX6_start_32 : decode cX6_start 32 = .ok (.goto 10, 3) := by decide +kernel
theorem dX6_start_35 : decode cX6_start 35 = .ok (.aload_n 0, 1) := by decide +kernel
theorem dX6_start_36 : decode cX6_start 36 = .ok (.iload_n 3, 1) := by decide +kernel
theorem dX6_start_37 : decode cX6_start 37 = .ok (.iconst 2, 1) := by decide +kernel
theorem dX6_start_38 : decode cX6_start 38 = .ok (.iadd, 1) := by decide +kernel
theorem dX6_start_39 : decode cX6_start 39 = .ok (.invokevirtual 57, 3) := by decide +kernel
theorem dX6_start_42 : decode cX6_start 42 = .ok (.iadd, 1) := by decide +kernel
theorem dX6_start_43 : decode cX6_start 43 = .ok (.istore_n 2, 1) := by decide +kernel
theorem dX6_start_44 : decode cX6_start 44 = .ok (.iinc 3 1, 3) := by decide +kernel
theorem dX6_start_47 : decode cX6_start 47 = .ok (.goto (-42), 3) := by decide +kernel
theorem dX6_start_50 : decode cX6_start 50 = .ok (.iload_n 2, 1) := by decide +kernel
theorem dX6_start_51 : decode cX6_start 51 = .ok (.ireturn, 1) := by decide +kernel
theorem dX6_piece_0 : decode cX6_piece 0 = .ok (.aload_n 0, 1) := by decide +kernel
theorem dX6_piece_1 : decode cX6_piece 1 = .ok (.iconst 4, 1) := by decide +kernel
theorem dX6_piece_2 : decode cX6_piece 2 = .ok (.aload_n 0, 1) := by decide +kernel
theorem dX6_piece_3 : decode cX6_piece 3 = .ok (.iload_n 1, 1) := by decide +kernel
theorem dX6_piece_4 : decode cX6_piece 4 = .ok (.invokevirtual 64, 3) := by decide +kernel
theorem dX6_piece_7 : decode cX6_piece 7 = .ok (.iload_n 2, 1) := by decide +kernel
theorem dX6_piece_8 : decode cX6_piece 8 = .ok (.iadd, 1) := by decide +kernel
theorem dX6_piece_9 : decode cX6_piece 9 = .ok (.imul, 1) := by decide +kernel
theorem dX6_piece_10 : decode cX6_piece 10 = .ok (.iload_n 3, 1) := by decide +kernel
theorem dX6_piece_11 : decode cX6_piece 11 = .ok (.iadd, 1) := by decide +kernel
theorem dX6_piece_12 : decode cX6_piece 12 = .ok (.invokevirtual 53, 3) := by decide +kernel
theorem dX6_piece_15 : decode cX6_piece 15 = .ok (.ireturn, 1) := by decide +kernel
theorem dX6_info_0 : decode cX6_info 0 = .ok (.aload_n 0, 1) := by decide +kernel
theorem dX6_info_1 : decode cX6_info 1 = .ok (.iconst 1, 1) := by decide +kernel
theorem dX6_info_2 : decode cX6_info 2 = .ok (.iload_n 1, 1) := by decide +kernel
theorem dX6_info_3 : decode cX6_info 3 = .ok (.aload_n 0, 1) := by decide +kernel
theorem dX6_info_4 : decode cX6_info 4 = .ok (.iconst 2, 1) := by decide +kernel
theorem dX6_info_5 : decode cX6_info 5 = .ok (.invokevirtual 57, 3) := by decide +kernel
theorem dX6_info_8 : decode cX6_info 8 = .ok (.isub, 1) := by decide +kernel
theorem dX6_info_9 : decode cX6_info 9 = .ok (.iload_n 2, 1) := by decide +kernel
theorem dX6_info_10 : decode cX6_info 10 = .ok (.invokevirtual 67, 3) := by decide +kernel
theorem dX6_info_13 : decode cX6_info 13 = .ok (.ireturn, 1) := by decide +kernel
theorem dX6_isThere_0 : decode cX6_isThere 0 = .ok (.iload_n 1, 1) := by decide +kernel
theorem dX6_isThere_1 : decode cX6_isThere 1 = .ok (.aload_n 0, 1) := by decide +kernel
theorem dX6_isThere_2 : decode cX6_isThere 2 = .ok (.iconst 2, 1) := by decide +kernel
theorem dX6_isThere_3 : decode cX6_isThere 3 = .ok (.invokevirtual 57, 3) := by decide +kernel
theorem dX6_isThere_6 : decode cX6_isThere 6 = .ok (.if_icmp .lt 51, 3) := by decide +kernel
theorem dX6_isThere_9 : decode cX6_isThere 9 = .ok (.iload_n 1, 1) := by decide +kernel
theorem dX6_isThere_10 : decode cX6_isThere 10 = .ok (.aload_n 0, 1) := by decide +kernel
theorem dX6_isThere_11 : decode cX6_isThere 11 = .ok (.iconst 3, 1) := by decide +kernel
theorem dX6_isThere_12 : decode cX6_isThere 12 = .ok (.invokevirtual 57, 3) := by decide +kernel
theorem dX6_isThere_15 : decode cX6_isThere 15 = .ok (.if_icmp .gt 42, 3) := by decide +kernel
theorem dX6_isThere_18 : decode cX6_isThere 18 = .ok (.aload_n 0, 1) := by decide +kernel
theorem dX6_isThere_19 : decode cX6_isThere 19 = .ok (.iload_n 1, 1) := by decide +kernel
theorem dX6_isThere_20 : decode cX6_isThere 20 = .ok (.aload_n 0, 1) := by decide +kernel
theorem dX6_isThere_21 : decode cX6_isThere 21 = .ok (.iconst 2, 1) := by decide +kernel
theorem dX6_isThere_22 : decode cX6_isThere 22 = .ok (.invokevirtual 57, 3) := by decide +kernel
theorem dX6_isThere_25 : decode cX6_isThere 25 = .ok (.if_icmp .lt 12, 3) := by decide +kernel
theorem dX6_isThere_28 : decode cX6_isThere 28 = .ok (.iload_n 1, 1) := by decide +kernel
theorem dX6_isThere_29 : decode cX6_isThere 29 = .ok (.aload_n 0, 1) := by decide +kernel
theorem dX6_isThere_30 : decode cX6_isThere 30 = .ok (.iconst 3, 1) := by decide +kernel
theorem dX6_isThere_31 : decode cX6_isThere 31 = .ok (.invokevirtual 57, 3) := by decide +kernel
theorem dX6_isThere_34 : decode cX6_isThere 34 = .ok (.if_icmp .le 11, 3) := by decide +kernel
theorem dX6_isThere_37 : decode cX6_isThere 37 = .ok (.aload_n 0, 1) := by decide +kernel
theorem dX6_isThere_38 : decode cX6_isThere 38 = .ok (.iconst 2, 1) := by decide +kernel
theorem dX6_isThere_39 : decode cX6_isThere 39 = .ok (.invokevirtual 57, 3) := by decide +kernel
theorem dX6_isThere_42 : decode cX6_isThere 42 = .ok (.goto 4, 3) := by decide +kernel
theorem dX6_isThere_45 : decode cX6_isThere 45 = .ok (.iload_n 1, 1) := by decide +kernel
theorem dX6_isThere_46 : decode cX6_isThere 46 = .ok (.iconst 0, 1) := by decide +kernel
theorem dX6_isThere_47 : decode cX6_isThere 47 = .ok (.invokevirtual 71, 3) := by decide +kernel
theorem dX6_isThere_50 : decode cX6_isThere 50 = .ok (.ifCond .le 7, 3) := by decide +kernel
theorem dX6_isThere_53 : decode cX6_isThere 53 = .ok (.iconst 1, 1) := by decide +kernel
theorem dX6_isThere_54 : decode cX6_isThere 54 = .ok (.goto 4, 3) := by decide +kernel
theorem dX6_isThere_57 : decode cX6_isThere 57 = .ok (.iconst 0, 1) := by decide +kernel
theorem dX6_isThere_58 : decode cX6_isThere 58 = .ok (.ireturn, 1) := by decide +kernel
theorem dX6_isWhole_0 : decode cX6_isWhole 0 = .ok (.aload_n 0, 1) := by decide +kernel
theorem dX6_isWhole_1 : decode cX6_isWhole 1 = .ok (.getfield 41, 3) := by decide +kernel
theorem dX6_isWhole_4 : decode cX6_isWhole 4 = .ok (.bipush 24, 2) := by decide +kernel
theorem dX6_isWhole_6 : decode cX6_isWhole 6 = .ok (.if_icmp .ge 5, 3) := by decide +kernel
theorem dX6_isWhole_9 : decode cX6_isWhole 9 = .ok (.iconst 0, 1) := by decide +kernel
theorem dX6_isWhole_10 : decode cX6_isWhole 10 = .ok (.ireturn, 1) := by decide +kernel
theorem dX6_isWhole_11 : decode cX6_isWhole 11 = .ok (.iconst 1, 1) := by decide +kernel
theorem dX6_isWhole_12 : decode cX6_isWhole 12 = .ok (.istore_n 1, 1) := by decide +kernel
theorem dX6_isWhole_13 : decode cX6_isWhole 13 = .ok (.iconst 0, 1) := by decide +kernel
theorem dX6_isWhole_14 : decode cX6_isWhole 14 = .ok (.istore_n 2, 1) := by decide +kernel
theorem dX6_isWhole_15 : decode cX6_isWhole 15 = .ok (.iload_n 2, 1) := by decide +kernel
theorem dX6_isWhole_16 : decode cX6_isWhole 16 = .ok (.bipush 12, 2) := by decide +kernel
theorem dX6_isWhole_18 : decode cX6_isWhole 18 = .ok (.if_icmp .ge 29, 3) := by decide +kernel
theorem dX6_isWhole_21 : decode cX6_isWhole 21 = .ok (.iload_n 1, 1) := by decide +kernel
theorem dX6_isWhole_22 : decode cX6_isWhole 22 = .ok (.ifCond .eq 17, 3) := by decide +kernel
theorem dX6_isWhole_25 : decode cX6_isWhole 25 = .ok (.aload_n 0, 1) := by decide +kernel
theorem dX6_isWhole_26 : decode cX6_isWhole 26 = .ok (.iload_n 2, 1) := by decide +kernel
theorem dX6_isWhole_27 : decode cX6_isWhole 27 = .ok (.invokevirtual 57, 3) := by decide +kernel
theorem dX6_isWhole_30 : decode cX6_isWhole 30 = .ok (.ldc 75, 2) := by decide +kernel
theorem dX6_isWhole_32 : decode cX6_isWhole 32 = .ok (.if_icmp .ge 7, 3) := by decide +kernel
theorem dX6_isWhole_35 : decode cX6_isWhole 35 = .ok (.iconst 1, 1) := by decide +kernel
theorem dX6_isWhole_36 : decode cX6_isWhole 36 = .ok (.goto 4, 3) := by decide +kernel
theorem dX6_isWhole_39 : decode cX6_isWhole 39 = .ok (.iconst 0, 1) := by decide +kernel
theorem dX6_isWhole_40 : decode cX6_isWhole 40 = .ok (.istore_n 1, 1) := by decide +kernel
theorem dX6_isWhole_41 : decode cX6_isWhole 41 = .ok (.iinc 2 1, 3) := by decide +kernel
theorem dX6_isWhole_44 : decode cX6_isWhole 44 = .ok (.goto (-29), 3) := by decide +kernel
theorem dX6_isWhole_47 : decode cX6_isWhole 47 = .ok (.iload_n 1, 1) := by decide +kernel
theorem dX6_isWhole_48 : decode cX6_isWhole 48 = .ok (.ifCond .eq 54, 3) := by decide +kernel
theorem dX6_isWhole_51 : decode cX6_isWhole 51 = .ok (.aload_n 0, 1) := by decide +kernel
theorem dX6_isWhole_52 : decode cX6_isWhole 52 = .ok (.iconst 1, 1) := by decide +kernel
theorem dX6_isWhole_53 : decode cX6_isWhole 53 = .ok (.invokevirtual 57, 3) := by decide +kernel
theorem dX6_isWhole_56 : decode cX6_isWhole 56 = .ok (.iconst 1, 1) := by decide +kernel
theorem dX6_isWhole_57 : decode cX6_isWhole 57 = .ok (.if_icmp .le 45, 3) := by decide +kernel
theorem dX6_isWhole_60 : decode cX6_isWhole 60 = .ok (.aload_n 0, 1) := by decide +kernel
theorem dX6_isWhole_61 : decode cX6_isWhole 61 = .ok (.iconst 2, 1) := by decide +kernel
theorem dX6_isWhole_62 : decode cX6_isWhole 62 = .ok (.invokevirtual 57, 3) := by decide +kernel
theorem dX6_isWhole_65 : decode cX6_isWhole 65 = .ok (.aload_n 0, 1) := by decide +kernel
theorem dX6_isWhole_66 : decode cX6_isWhole 66 = .ok (.iconst 3, 1) := by decide +kernel
theorem dX6_isWhole_67 : decode cX6_isWhole 67 = .ok (.invokevirtual 57, 3) := by decide +kernel
theorem dX6_isWhole_70 : decode cX6_isWhole 70 = .ok (.iconst 1, 1) := by decide +kernel
theorem dX6_isWhole_71 : decode cX6_isWhole 71 = .ok (.iadd, 1) := by decide +kernel
theorem dX6_isWhole_72 : decode cX6_isWhole 72 = .ok (.if_icmp .gt 30, 3) := by decide +kernel
theorem dX6_isWhole_75 : decode cX6_isWhole 75 = .ok (.aload_n 0, 1) := by decide +kernel
theorem dX6_isWhole_76 : decode cX6_isWhole 76 = .ok (.iconst 3, 1) := by decide +kernel
theorem dX6_isWhole_77 : decode cX6_isWhole 77 = .ok (.invokevirtual 57, 3) := by decide +kernel
theorem dX6_isWhole_80 : decode cX6_isWhole 80 = .ok (.sipush 256, 3) := by decide +kernel
theorem dX6_isWhole_83 : decode cX6_isWhole 83 = .ok (.if_icmp .ge 19, 3) := by decide +kernel
theorem dX6_isWhole_86 : decode cX6_isWhole 86 = .ok (.aload_n 0, 1) := by decide +kernel
theorem dX6_isWhole_87 : decode cX6_isWhole 87 = .ok (.bipush 10, 2) := by decide +kernel
theorem dX6_isWhole_89 : decode cX6_isWhole 89 = .ok (.invokevirtual 57, 3) := by decide +kernel
theorem dX6_isWhole_92 : decode cX6_isWhole 92 = .ok (.sipush 257, 3) := by decide +kernel
theorem dX6_isWhole_95 : decode cX6_isWhole 95 = .ok (.if_icmp .ge 7, 3) := by decide +kernel
theorem dX6_isWhole_98 : decode cX6_isWhole 98 = .ok (.iconst 1, 1) := by decide +kernel
theorem dX6_isWhole_99 : decode cX6_isWhole 99 = .ok (.goto 4, 3) := by decide +kernel
theorem dX6_isWhole_102 : decode cX6_isWhole 102 = .ok (.iconst 0, 1) := by decide +kernel
theorem dX6_isWhole_103 : decode cX6_isWhole 103 = .ok (.istore_n 1, 1) := by decide +kernel
theorem dX6_isWhole_104 : decode cX6_isWhole 104 = .ok (.iconst 4, 1) := by decide +kernel
theorem dX6_isWhole_105 : decode cX6_isWhole 105 = .ok (.istore_n 2, 1) := by decide +kernel
theorem dX6_isWhole_106 : decode cX6_isWhole 106 = .ok (.iload_n 2, 1) := by decide +kernel
theorem dX6_isWhole_107 : decode cX6_isWhole 107 = .ok (.bipush 8, 2) := by decide +kernel
theorem dX6_isWhole_109 : decode cX6_isWhole 109 = .ok (.if_icmp .ge 27, 3) := by decide +kernel
theorem dX6_isWhole_112 : decode cX6_isWhole 112 = .ok (.iload_n 1, 1) := by decide +kernel
theorem dX6_isWhole_113 : decode cX6_isWhole 113 = .ok (.ifCond .eq 15, 3) := by decide +kernel
theorem dX6_isWhole_116 : decode cX6_isWhole 116 = .ok (.aload_n 0, 1) := by decide +kernel
theorem dX6_isWhole_117 : decode cX6_isWhole 117 = .ok (.iload_n 2, 1) := by decide +kernel
theorem dX6_isWhole_118 : decode cX6_isWhole 118 = .ok (.invokevirtual 57, 3) := by decide +kernel
theorem dX6_isWhole_121 : decode cX6_isWhole 121 = .ok (.ifCond .le 7, 3) := by decide +kernel
theorem dX6_isWhole_124 : decode cX6_isWhole 124 = .ok (.iconst 1, 1) := by decide +kernel
theorem dX6_isWhole_125 : decode cX6_isWhole 125 = .ok (.goto 4, 3) := by decide +kernel
theorem dX6_isWhole_128 : decode cX6_isWhole 128 = .ok (.iconst 0, 1) := by decide +kernel
theorem dX6_isWhole_129 : decode cX6_isWhole 129 = .ok (.istore_n 1, 1) := by decide +kernel
theorem dX6_isWhole_130 : decode cX6_isWhole 130 = .ok (.iinc 2 1, 3) := by decide +kernel
theorem dX6_isWhole_133 : decode cX6_isWhole 133 = .ok (.goto (-27), 3) := by decide +kernel
theorem dX6_isWhole_136 : decode cX6_isWhole 136 = .ok (.iload_n 1, 1) := by decide +kernel
theorem dX6_isWhole_137 : decode cX6_isWhole 137 = .ok (.ifCond .eq 35, 3) := by decide +kernel
theorem dX6_isWhole_140 : decode cX6_isWhole 140 = .ok (.aload_n 0, 1) := by decide +kernel
theorem dX6_isWhole_141 : decode cX6_isWhole 141 = .ok (.bipush 10, 2) := by decide +kernel
theorem dX6_isWhole_143 : decode cX6_isWhole 143 = .ok (.invokevirtual 64, 3) := by decide +kernel
theorem dX6_isWhole_146 : decode cX6_isWhole 146 = .ok (.aload_n 0, 1) := by decide +kernel
theorem dX6_isWhole_147 : decode cX6_isWhole 147 = .ok (.iconst 0, 1) := by decide +kernel
theorem dX6_isWhole_148 : decode cX6_isWhole 148 = .ok (.invokevirtual 57, 3) := by decide +kernel
theorem dX6_isWhole_151 : decode cX6_isWhole 151 = .ok (.if_icmp .ne 21, 3) := by decide +kernel
theorem dX6_isWhole_154 : decode cX6_isWhole 154 = .ok (.aload_n 0, 1) := by decide +kernel
theorem dX6_isWhole_155 : decode cX6_isWhole 155 = .ok (.getfield 41, 3) := by decide +kernel
theorem dX6_isWhole_158 : decode cX6_isWhole 158 = .ok (.iconst 4, 1) := by decide +kernel
theorem dX6_isWhole_159 : decode cX6_isWhole 159 = .ok (.aload_n 0, 1) := by decide +kernel
theorem dX6_isWhole_160 : decode cX6_isWhole 160 = .ok (.iconst 0, 1) := by decide +kernel
theorem dX6_isWhole_161 : decode cX6_isWhole 161 = .ok (.invokevirtual 57, 3) := by decide +kernel
theorem dX6_isWhole_164 : decode cX6_isWhole 164 = .ok (.imul, 1) := by decide +kernel
theorem dX6_isWhole_165 : decode cX6_isWhole 165 = .ok (.if_icmp .ne 7, 3) := by decide +kernel
theorem dX6_isWhole_168 : decode cX6_isWhole 168 = .ok (.iconst 1, 1) := by decide +kernel
theorem dX6_isWhole_169 : decode cX6_isWhole 169 = .ok (.goto 4, 3) := by decide +kernel
theorem dX6_isWhole_172 : decode cX6_isWhole 172 = .ok (.iconst 0, 1) := by decide +kernel
theorem dX6_isWhole_173 : decode cX6_isWhole 173 = .ok (.ireturn, 1) := by decide +kernel
theorem dX6_ends_0 : decode cX6_ends 0 = .ok (.aload_n 0, 1) := by decide +kernel
theorem dX6_ends_1 : decode cX6_ends 1 = .ok (.iload_n 1, 1) := by decide +kernel
theorem dX6_ends_2 : decode cX6_ends 2 = .ok (.iconst 3, 1) := by decide +kernel
