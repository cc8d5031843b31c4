theorem dX2_fractionsFit_8 : decode cX2_fractionsFit 8 = .ok (.iload_n 1, 1) := by decide +kernel
theorem dX2_fractionsFit_9 : decode cX2_fractionsFit 9 = .ok (.iconst 0, 1) := by decide +kernel
theorem dX2_fractionsFit_10 : decode cX2_fractionsFit 10 = .ok (.invokevirtual 66, 3) := by decide +kernel
theorem dX2_fractionsFit_13 : decode cX2_fractionsFit 13 = .ok (.ifCond .ne 12, 3) := by decide +kernel
theorem dX2_fractionsFit_16 : decode cX2_fractionsFit 16 = .ok (.aload_n 0, 1) := by decide +kernel
theorem dX2_fractionsFit_17 : decode cX2_fractionsFit 17 = .ok (.iload_n 1, 1) := by decide +kernel
theorem dX2_fractionsFit_18 : decode cX2_fractionsFit 18 = .ok (.iconst 1, 1) := by decide +kernel
theorem dX2_fractionsFit_19 : decode cX2_fractionsFit 19 = .ok (.invokestatic 69, 3) := by decide +kernel
theorem dX2_fractionsFit_22 : decode cX2_fractionsFit 22 = .ok (.ifCond .ne 5, 3) := by decide +kernel
theorem dX2_fractionsFit_25 : decode cX2_fractionsFit 25 = .ok (.iconst 0, 1) := by decide +kernel
theorem dX2_fractionsFit_26 : decode cX2_fractionsFit 26 = .ok (.ireturn, 1) := by decide +kernel
theorem dX2_fractionsFit_27 : decode cX2_fractionsFit 27 = .ok (.iinc 1 1, 3) := by decide +kernel
theorem dX2_fractionsFit_30 : decode cX2_fractionsFit 30 = .ok (.goto (-28), 3) := by decide +kernel
theorem dX2_fractionsFit_33 : decode cX2_fractionsFit 33 = .ok (.aload_n 0, 1) := by decide +kernel
theorem dX2_fractionsFit_34 : decode cX2_fractionsFit 34 = .ok (.bipush 7, 2) := by decide +kernel
theorem dX2_fractionsFit_36 : decode cX2_fractionsFit 36 = .ok (.iconst 0, 1) := by decide +kernel
theorem dX2_fractionsFit_37 : decode cX2_fractionsFit 37 = .ok (.invokestatic 69, 3) := by decide +kernel
theorem dX2_fractionsFit_40 : decode cX2_fractionsFit 40 = .ok (.ifCond .eq 17, 3) := by decide +kernel
theorem dX2_fractionsFit_43 : decode cX2_fractionsFit 43 = .ok (.aload_n 0, 1) := by decide +kernel
theorem dX2_fractionsFit_44 : decode cX2_fractionsFit 44 = .ok (.bipush 9, 2) := by decide +kernel
theorem dX2_fractionsFit_46 : decode cX2_fractionsFit 46 = .ok (.iconst 1, 1) := by decide +kernel
theorem dX2_fractionsFit_47 : decode cX2_fractionsFit 47 = .ok (.invokestatic 69, 3) := by decide +kernel
theorem dX2_fractionsFit_50 : decode cX2_fractionsFit 50 = .ok (.ifCond .eq 7, 3) := by decide +kernel
theorem dX2_fractionsFit_53 : decode cX2_fractionsFit 53 = .ok (.iconst 1, 1) := by decide +kernel
theorem dX2_fractionsFit_54 : decode cX2_fractionsFit 54 = .ok (.goto 4, 3) := by decide +kernel
theorem dX2_fractionsFit_57 : decode cX2_fractionsFit 57 = .ok (.iconst 0, 1) := by decide +kernel
theorem dX2_fractionsFit_58 : decode cX2_fractionsFit 58 = .ok (.ireturn, 1) := by decide +kernel
theorem dX2_areFractions_0 : decode cX2_areFractions 0 = .ok (.iload_n 2, 1) := by decide +kernel
theorem dX2_areFractions_1 : decode cX2_areFractions 1 = .ok (.istore_n 3, 1) := by decide +kernel
theorem dX2_areFractions_2 : decode cX2_areFractions 2 = .ok (.iload_n 3, 1) := by decide +kernel
theorem dX2_areFractions_3 : decode cX2_areFractions 3 = .ok (.aload_n 0, 1) := by decide +kernel
theorem dX2_areFractions_4 : decode cX2_areFractions 4 = .ok (.iload_n 1, 1) := by decide +kernel
theorem dX2_areFractions_5 : decode cX2_areFractions 5 = .ok (.invokevirtual 54, 3) := by decide +kernel
theorem dX2_areFractions_8 : decode cX2_areFractions 8 = .ok (.if_icmp .ge 33, 3) := by decide +kernel
theorem dX2_areFractions_11 : decode cX2_areFractions 11 = .ok (.aload_n 0, 1) := by decide +kernel
theorem dX2_areFractions_12 : decode cX2_areFractions 12 = .ok (.iload_n 1, 1) := by decide +kernel
theorem dX2_areFractions_13 : decode cX2_areFractions 13 = .ok (.iload_n 3, 1) := by decide +kernel
theorem dX2_areFractions_14 : decode cX2_areFractions 14 = .ok (.invokevirtual 66, 3) := by decide +kernel
theorem dX2_areFractions_17 : decode cX2_areFractions 17 = .ok (.istore 4, 2) := by decide +kernel
theorem dX2_areFractions_19 : decode cX2_areFractions 19 = .ok (.iload 4, 2) := by decide +kernel
theorem dX2_areFractions_21 : decode cX2_areFractions 21 = .ok (.ldc 73, 2) := by decide +kernel
theorem dX2_areFractions_23 : decode cX2_areFractions 23 = .ok (.if_icmp .lt 10, 3) := by decide +kernel
theorem dX2_areFractions_26 : decode cX2_areFractions 26 = .ok (.iload 4, 2) := by decide +kernel
theorem dX2_areFractions_28 : decode cX2_areFractions 28 = .ok (.ldc 74, 2) := by decide +kernel
theorem dX2_areFractions_30 : decode cX2_areFractions 30 = .ok (.if_icmp .lt 5, 3) := by decide +kernel
theorem dX2_areFractions_33 : decode cX2_areFractions 33 = .ok (.iconst 0, 1) := by decide +kernel
theorem dX2_areFractions_34 : decode cX2_areFractions 34 = .ok (.ireturn, 1) := by decide +kernel
theorem dX2_areFractions_35 : decode cX2_areFractions 35 = .ok (.iinc 3 1, 3) := by decide +kernel
theorem dX2_areFractions_38 : decode cX2_areFractions 38 = .ok (.goto (-36), 3) := by decide +kernel
theorem dX2_areFractions_41 : decode cX2_areFractions 41 = .ok (.iconst 1, 1) := by decide +kernel
theorem dX2_areFractions_42 : decode cX2_areFractions 42 = .ok (.ireturn, 1) := by decide +kernel
theorem dX2_stepsFit_0 : decode cX2_stepsFit 0 = .ok (.iconst 0, 1) := by decide +kernel
theorem dX2_stepsFit_1 : decode cX2_stepsFit 1 = .ok (.istore_n 1, 1) := by decide +kernel
theorem dX2_stepsFit_2 : decode cX2_stepsFit 2 = .ok (.iload_n 1, 1) := by decide +kernel
theorem dX2_stepsFit_3 : decode cX2_stepsFit 3 = .ok (.aload_n 0, 1) := by decide +kernel
theorem dX2_stepsFit_4 : decode cX2_stepsFit 4 = .ok (.bipush 6, 2) := by decide +kernel
theorem dX2_stepsFit_6 : decode cX2_stepsFit 6 = .ok (.invokevirtual 54, 3) := by decide +kernel
theorem dX2_stepsFit_9 : decode cX2_stepsFit 9 = .ok (.if_icmp .ge 38, 3) := by decide +kernel
theorem dX2_stepsFit_12 : decode cX2_stepsFit 12 = .ok (.aload_n 0, 1) := by decide +kernel
theorem dX2_stepsFit_13 : decode cX2_stepsFit 13 = .ok (.iload_n 1, 1) := by decide +kernel
theorem dX2_stepsFit_14 : decode cX2_stepsFit 14 = .ok (.invokevirtual 75, 3) := by decide +kernel
theorem dX2_stepsFit_17 : decode cX2_stepsFit 17 = .ok (.ifCond .eq 14, 3) := by decide +kernel
theorem dX2_stepsFit_20 : decode cX2_stepsFit 20 = .ok (.aload_n 0, 1) := by decide +kernel
theorem dX2_stepsFit_21 : decode cX2_stepsFit 21 = .ok (.iload_n 1, 1) := by decide +kernel
theorem dX2_stepsFit_22 : decode cX2_stepsFit 22 = .ok (.invokestatic 78, 3) := by decide +kernel
theorem dX2_stepsFit_25 : decode cX2_stepsFit 25 = .ok (.ifCond .eq 14, 3) := by decide +kernel
theorem dX2_stepsFit_28 : decode cX2_stepsFit 28 = .ok (.goto 13, 3) := by decide +kernel
theorem dX2_stepsFit_31 : decode cX2_stepsFit 31 = .ok (.aload_n 0, 1) := by decide +kernel
theorem dX2_stepsFit_32 : decode cX2_stepsFit 32 = .ok (.iload_n 1, 1) := by decide +kernel
theorem dX2_stepsFit_33 : decode cX2_stepsFit 33 = .ok (.invokestatic 81, 3) := by decide +kernel
theorem dX2_stepsFit_36 : decode cX2_stepsFit 36 = .ok (.ifCond .ne 5, 3) := by decide +kernel
theorem dX2_stepsFit_39 : decode cX2_stepsFit 39 = .ok (.iconst 0, 1) := by decide +kernel
theorem dX2_stepsFit_40 : decode cX2_stepsFit 40 = .ok (.ireturn, 1) := by decide +kernel
theorem dX2_stepsFit_41 : decode cX2_stepsFit 41 = .ok (.iinc 1 1, 3) := by decide +kernel
theorem dX2_stepsFit_44 : decode cX2_stepsFit 44 = .ok (.goto (-42), 3) := by decide +kernel
theorem dX2_stepsFit_47 : decode cX2_stepsFit 47 = .ok (.iconst 1, 1) := by decide +kernel
theorem dX2_stepsFit_48 : decode cX2_stepsFit 48 = .ok (.ireturn, 1) := by decide +kernel
theorem dX2_jumpFits_0 : decode cX2_jumpFits 0 = .ok (.aload_n 0, 1) := by decide +kernel
theorem dX2_jumpFits_1 : decode cX2_jumpFits 1 = .ok (.iload_n 1, 1) := by decide +kernel
theorem dX2_jumpFits_2 : decode cX2_jumpFits 2 = .ok (.invokevirtual 84, 3) := by decide +kernel
theorem dX2_jumpFits_5 : decode cX2_jumpFits 5 = .ok (.aload_n 0, 1) := by decide +kernel
theorem dX2_jumpFits_6 : decode cX2_jumpFits 6 = .ok (.bipush 6, 2) := by decide +kernel
theorem dX2_jumpFits_8 : decode cX2_jumpFits 8 = .ok (.invokevirtual 54, 3) := by decide +kernel
theorem dX2_jumpFits_11 : decode cX2_jumpFits 11 = .ok (.if_icmp .ge 7, 3) := by decide +kernel
theorem dX2_jumpFits_14 : decode cX2_jumpFits 14 = .ok (.iconst 1, 1) := by decide +kernel
theorem dX2_jumpFits_15 : decode cX2_jumpFits 15 = .ok (.goto 4, 3) := by decide +kernel
theorem dX2_jumpFits_18 : decode cX2_jumpFits 18 = .ok (.iconst 0, 1) := by decide +kernel
theorem dX2_jumpFits_19 : decode cX2_jumpFits 19 = .ok (.ireturn, 1) := by decide +kernel
theorem dX2_deedFits_0 : decode cX2_deedFits 0 = .ok (.aload_n 0, 1) := by decide +kernel
theorem dX2_deedFits_1 : decode cX2_deedFits 1 = .ok (.iload_n 1, 1) := by decide +kernel
theorem dX2_deedFits_2 : decode cX2_deedFits 2 = .ok (.invokevirtual 87, 3) := by decide +kernel
theorem dX2_deedFits_5 : decode cX2_deedFits 5 = .ok (.istore_n 2, 1) := by decide +kernel
theorem dX2_deedFits_6 : decode cX2_deedFits 6 = .ok (.aload_n 0, 1) := by decide +kernel
theorem dX2_deedFits_7 : decode cX2_deedFits 7 = .ok (.iload_n 2, 1) := by decide +kernel
theorem dX2_deedFits_8 : decode cX2_deedFits 8 = .ok (.invokevirtual 39, 3) := by decide +kernel
theorem dX2_deedFits_11 : decode cX2_deedFits 11 = .ok (.ifCond .ne 13, 3) := by decide +kernel
theorem dX2_deedFits_14 : decode cX2_deedFits 14 = .ok (.iload_n 2, 1) := by decide +kernel
theorem dX2_deedFits_15 : decode cX2_deedFits 15 = .ok (.aload_n 0, 1) := by decide +kernel
theorem dX2_deedFits_16 : decode cX2_deedFits 16 = .ok (.invokevirtual 90, 3) := by decide +kernel
theorem dX2_deedFits_19 : decode cX2_deedFits 19 = .ok (.if_icmp .eq 5, 3) := by decide +kernel
theorem dX2_deedFits_22 : decode cX2_deedFits 22 = .ok (.iconst 0, 1) := by decide +kernel
theorem dX2_deedFits_23 : decode cX2_deedFits 23 = .ok (.ireturn, 1) := by decide +kernel
theorem dX2_deedFits_24 : decode cX2_deedFits 24 = .ok (.aload_n 0, 1) := by decide +kernel
theorem dX2_deedFits_25 : decode cX2_deedFits 25 = .ok (.iload_n 1, 1) := by decide +kernel
theorem dX2_deedFits_26 : decode cX2_deedFits 26 = .ok (.invokevirtual 93, 3) := by decide +kernel
theorem dX2_deedFits_29 : decode cX2_deedFits 29 = .ok (.aload_n 0, 1) := by decide +kernel
theorem dX2_deedFits_30 : decode cX2_deedFits 30 = .ok (.bipush 6, 2) := by decide +kernel
theorem dX2_deedFits_32 : decode cX2_deedFits 32 = .ok (.invokevirtual 54, 3) := by decide +kernel
theorem dX2_deedFits_35 : decode cX2_deedFits 35 = .ok (.if_icmp .lt 5, 3) := by decide +kernel
theorem dX2_deedFits_38 : decode cX2_deedFits 38 = .ok (.iconst 0, 1) := by decide +kernel
theorem dX2_deedFits_39 : decode cX2_deedFits 39 = .ok (.ireturn, 1) := by decide +kernel
theorem dX2_deedFits_40 : decode cX2_deedFits 40 = .ok (.aload_n 0, 1) := by decide +kernel
theorem dX2_deedFits_41 : decode cX2_deedFits 41 = .ok (.iload_n 1, 1) := by decide +kernel
theorem dX2_deedFits_42 : decode cX2_deedFits 42 = .ok (.invokevirtual 96, 3) := by decide +kernel
theorem dX2_deedFits_45 : decode cX2_deedFits 45 = .ok (.ifCond .eq 23, 3) := by decide +kernel
theorem dX2_deedFits_48 : decode cX2_deedFits 48 = .ok (.aload_n 0, 1) := by decide +kernel
theorem dX2_deedFits_49 : decode cX2_deedFits 49 = .ok (.iload_n 1, 1) := by decide +kernel
theorem dX2_deedFits_50 : decode cX2_deedFits 50 = .ok (.invokevirtual 99, 3) := by decide +kernel
theorem dX2_deedFits_53 : decode cX2_deedFits 53 = .ok (.aload_n 0, 1) := by decide +kernel
theorem dX2_deedFits_54 : decode cX2_deedFits 54 = .ok (.bipush 7, 2) := by decide +kernel
theorem dX2_deedFits_56 : decode cX2_deedFits 56 = .ok (.invokevirtual 54, 3) := by decide +kernel
theorem dX2_deedFits_59 : decode cX2_deedFits 59 = .ok (.if_icmp .ge 7, 3) := by decide +kernel
theorem dX2_deedFits_62 : decode cX2_deedFits 62 = .ok (.iconst 1, 1) := by decide +kernel
theorem dX2_deedFits_63 : decode cX2_deedFits 63 = .ok (.goto 4, 3) := by decide +kernel
theorem dX2_deedFits_66 : decode cX2_deedFits 66 = .ok (.iconst 0, 1) := by decide +kernel
theorem dX2_deedFits_67 : decode cX2_deedFits 67 = .ok (.ireturn, 1) := by decide +kernel
theorem dX2_deedFits_68 : decode cX2_deedFits 68 = .ok (.aload_n 0, 1) := by decide +kernel
theorem dX2_deedFits_69 : decode cX2_deedFits 69 = .ok (.aload_n 0, 1) := by decide +kernel
theorem dX2_deedFits_70 : decode cX2_deedFits 70 = .ok (.iload_n 1, 1) := by decide +kernel
theorem dX2_deedFits_71 : decode cX2_deedFits 71 = .ok (.invokevirtual 102, 3) := by decide +kernel
theorem dX2_deedFits_74 : decode cX2_deedFits 74 = .ok (.invokevirtual 39, 3) := by decide +kernel
theorem dX2_deedFits_77 : decode cX2_deedFits 77 = .ok (.ifCond .eq 18, 3) := by decide +kernel
theorem dX2_deedFits_80 : decode cX2_deedFits 80 = .ok (.aload_n 0, 1) := by decide +kernel
theorem dX2_deedFits_81 : decode cX2_deedFits 81 = .ok (.iload_n 1, 1) := by decide +kernel
theorem dX2_deedFits_82 : decode cX2_deedFits 82 = .ok (.invokevirtual 105, 3) := by decide +kernel
theorem dX2_deedFits_85 : decode cX2_deedFits 85 = .ok (.invokestatic 108, 3) := by decide +kernel
theorem dX2_deedFits_88 : decode cX2_deedFits 88 = .ok (.ifCond .eq 7, 3) := by decide +kernel
theorem dX2_deedFits_91 : decode cX2_deedFits 91 = .ok (.iconst 1, 1) := by decide +kernel
theorem dX2_deedFits_92 : decode cX2_deedFits 92 = .ok (.goto 4, 3) := by decide +kernel
theorem dX2_deedFits_95 : decode cX2_deedFits 95 = .ok (.iconst 0, 1) := by decide +kernel
theorem dX2_deedFits_96 : decode cX2_deedFits 96 = .ok (.ireturn, 1) := by decide +kernel
theorem dX2_isLigature_0 : decode cX2_isLigature 0 = .ok (.iload_n 0, 1) := by decide +kernel
theorem dX2_isLigature_1 : decode cX2_isLigature 1 = .ok (.iconst 3, 1) := by decide +kernel
theorem dX2_isLigature_2 : decode cX2_isLigature 2 = .ok (.if_icmp .le 20, 3) := by decide +kernel
theorem dX2_isLigature_5 : decode cX2_isLigature 5 = .ok (.iload_n 0, 1) := by decide +kernel
theorem dX2_isLigature_6 : decode cX2_isLigature 6 = .ok (.iconst 5, 1) := by decide +kernel
theorem dX2_isLigature_7 : decode cX2_isLigature 7 = .ok (.if_icmp .lt 9, 3) := by decide +kernel
theorem dX2_isLigature_10 : decode cX2_isLigature 10 = .ok (.iload_n 0, 1) := by decide +kernel
theorem dX2_isLigature_11 : decode cX2_isLigature 11 = .ok (.bipush 7, 2) := by decide +kernel
theorem dX2_isLigature_13 : decode cX2_isLigature 13 = .ok (.if_icmp .le 9, 3) := by decide +kernel
theorem dX2_isLigature_16 : decode cX2_isLigature 16 = .ok (.iload_n 0, 1) := by decide +kernel
theorem dX2_isLigature_17 : decode cX2_isLigature 17 = .ok (.bipush 11, 2) := by decide +kernel
theorem dX2_isLigature_19 : decode cX2_isLigature 19 = .ok (.if_icmp .ne 7, 3) := by decide +kernel
theorem dX2_isLigature_22 : decode cX2_isLigature 22 = .ok (.iconst 1, 1) := by decide +kernel
theorem dX2_isLigature_23 : decode cX2_isLigature 23 = .ok (.goto 4, 3) := by decide +kernel
theorem dX2_isLigature_26 : decode cX2_isLigature 26 = .ok (.iconst 0, 1) := by decide +kernel
theorem dX2_isLigature_27 : decode cX2_isLigature 27 = .ok (.ireturn, 1) := by decide +kernel
theorem dX2_piecesFit_0 : decode cX2_piecesFit 0 = .ok (.iconst 0, 1) := by decide +kernel
theorem dX2_piecesFit_1 : decode cX2_piecesFit 1 = .ok (.istore_n 1, 1) := by decide +kernel
theorem dX2_piecesFit_2 : decode cX2_piecesFit 2 = .ok (.iload_n 1, 1) := by decide +kernel
theorem dX2_piecesFit_3 : decode cX2_piecesFit 3 = .ok (.aload_n 0, 1) := by decide +kernel
theorem dX2_piecesFit_4 : decode cX2_piecesFit 4 = .ok (.bipush 8, 2) := by decide +kernel
theorem dX2_piecesFit_6 : decode cX2_piecesFit 6 = .ok (.invokevirtual 54, 3) := by decide +kernel
theorem dX2_piecesFit_9 : decode cX2_piecesFit 9 = .ok (.if_icmp .ge 72, 3) := by decide +kernel
theorem dX2_piecesFit_12 : decode cX2_piecesFit 12 = .ok (.aload_n 0, 1) := by decide +kernel
theorem dX2_piecesFit_13 : decode cX2_piecesFit 13 = .ok (.bipush 8, 2) := by decide +kernel
theorem dX2_piecesFit_15 : decode cX2_piecesFit 15 = .ok (.iload_n 1, 1) := by decide +kernel
theorem dX2_piecesFit_16 : decode cX2_piecesFit 16 = .ok (.invokevirtual 66, 3) := by decide +kernel
theorem dX2_piecesFit_19 : decode cX2_piecesFit 19 = .ok (.istore_n 2, 1) := by decide +kernel
theorem dX2_piecesFit_20 : decode cX2_piecesFit 20 = .ok (.aload_n 0, 1) := by decide +kernel
theorem dX2_piecesFit_21 : decode cX2_piecesFit 21 = .ok (.iload_n 2, 1) := by decide +kernel
theorem dX2_piecesFit_22 : decode cX2_piecesFit 22 = .ok (.bipush 24, 2) := by decide +kernel
theorem dX2_piecesFit_24 : decode cX2_piecesFit 24 = .ok (.iushr, 1) := by decide +kernel
theorem dX2_piecesFit_25 : decode cX2_piecesFit 25 = .ok (.invokestatic 111, 3) := by decide +kernel
theorem dX2_piecesFit_28 : decode cX2_piecesFit 28 = .ok (.ifCond .eq 45, 3) := by decide +kernel
theorem dX2_piecesFit_31 : decode cX2_piecesFit 31 = .ok (.aload_n 0, 1) := by decide +kernel
theorem dX2_piecesFit_32 : decode cX2_piecesFit 32 = .ok (.iload_n 2, 1) := by decide +kernel
theorem dX2_piecesFit_33 : decode cX2_piecesFit 33 = .ok (.bipush 16, 2) := by decide +kernel
theorem dX2_piecesFit_35 : decode cX2_piecesFit 35 = .ok (.iushr, 1) := by decide +kernel
theorem dX2_piecesFit_36 : decode cX2_piecesFit 36 = .ok (.sipush 255, 3) := by decide +kernel
theorem dX2_piecesFit_39 : decode cX2_piecesFit 39 = .ok (.iand, 1) := by decide +kernel
theorem dX2_piecesFit_40 : decode cX2_piecesFit 40 = .ok (.invokestatic 111, 3) := by decide +kernel
theorem dX2_piecesFit_43 : decode cX2_piecesFit 43 = .ok (.ifCond .eq 30, 3) := by decide +kernel
theorem dX2_piecesFit_46 : decode cX2_piecesFit 46 = .ok (.aload_n 0, 1) := by decide +kernel
theorem dX2_piecesFit_47 : decode cX2_piecesFit 47 = .ok (.iload_n 2, 1) := by decide +kernel
theorem dX2_piecesFit_48 : decode cX2_piecesFit 48 = .ok (.bipush 8, 2) := by decide +kernel
theorem dX2_piecesFit_50 : decode cX2_piecesFit 50 = .ok (.iushr, 1) := by decide +kernel
theorem dX2_piecesFit_51 : decode cX2_piecesFit 51 = .ok (.sipush 255, 3) := by decide +kernel
theorem dX2_piecesFit_54 : decode cX2_piecesFit 54 = .ok (.iand, 1) := by decide +kernel
theorem dX2_piecesFit_55 : decode cX2_piecesFit 55 = .ok (.invokestatic 111, 3) := by decide +kernel
theorem dX2_piecesFit_58 : decode cX2_piecesFit 58 = .ok (.ifCond .eq 15, 3) := by decide +kernel
theorem dX2_piecesFit_61 : decode cX2_piecesFit 61 = .ok (.aload_n 0, 1) := by decide +kernel
theorem dX2_piecesFit_62 : decode cX2_piecesFit 62 = .ok (.iload_n 2, 1) := by decide +kernel
theorem dX2_piecesFit_63 : decode cX2_piecesFit 63 = .ok (.sipush 255, 3) := by decide +kernel
theorem dX2_piecesFit_66 : decode cX2_piecesFit 66 = .ok (.iand, 1) := by decide +kernel
theorem dX2_piecesFit_67 : decode cX2_piecesFit 67 = .ok (.invokevirtual 39, 3) := by decide +kernel
theorem dX2_piecesFit_70 : decode cX2_piecesFit 70 = .ok (.ifCond .ne 5, 3) := by decide +kernel
theorem dX2_piecesFit_73 : decode cX2_piecesFit 73 = .ok (.iconst 0, 1) := by decide +kernel
theorem dX2_piecesFit_74 : decode cX2_piecesFit 74 = .ok (.ireturn, 1) := by decide +kernel
theorem dX2_piecesFit_75 : decode cX2_piecesFit 75 = .ok (.iinc 1 1, 3) := by decide +kernel
theorem dX2_piecesFit_78 : decode cX2_piecesFit 78 = .ok (.goto (-76), 3) := by decide +kernel
theorem dX2_piecesFit_81 : decode cX2_piecesFit 81 = .ok (.iconst 1, 1) := by decide +kernel
theorem dX2_piecesFit_82 : decode cX2_piecesFit 82 = .ok (.ireturn, 1) := by decide +kernel
theorem dX2_partFits_0 : decode cX2_partFits 0 = .ok (.iload_n 1, 1) := by decide +kernel
theorem dX2_partFits_1 : decode cX2_partFits 1 = .ok (.ifCond .eq 11, 3) := by decide +kernel
theorem dX2_partFits_4 : decode cX2_partFits 4 = .ok (.aload_n 0, 1) := by decide +kernel
theorem dX2_partFits_5 : decode cX2_partFits 5 = .ok (.iload_n 1, 1) := by decide +kernel
theorem dX2_partFits_6 : decode cX2_partFits 6 = .ok (.invokevirtual 39, 3) := by decide +kernel
theorem dX2_partFits_9 : decode cX2_partFits 9 = .ok (.ifCond .eq 7, 3) := by decide +kernel
theorem dX2_partFits_12 : decode cX2_partFits 12 = .ok (.iconst 1, 1) := by decide +kernel
theorem dX2_partFits_13 : decode cX2_partFits 13 = .ok (.goto 4, 3) := by decide +kernel
theorem dX2_partFits_16 : decode cX2_partFits 16 = .ok (.iconst 0, 1) := by decide +kernel
theorem dX2_partFits_17 : decode cX2_partFits 17 = .ok (.ireturn, 1) := by decide +kernel
theorem dX3_init_0 : decode cX3_init 0 = .ok (.aload_n 0, 1) := by decide +kernel
theorem dX3_init_1 : decode cX3_init 1 = .ok (.invokespecial 3, 3) := by decide +kernel
theorem dX3_init_4 : decode cX3_init 4 = .ok (.aload_n 0, 1) := by decide +kernel
theorem dX3_init_5 : decode cX3_init 5 = .ok (.bipush 10, 2) := by decide +kernel
theorem dX3_init_7 : decode cX3_init 7 = .ok (.newarray .int, 2) := by decide +kernel
theorem dX3_init_9 : decode cX3_init 9 = .ok (.putfield 11, 3) := by decide +kernel
theorem dX3_init_12 : decode cX3_init 12 = .ok (.aload_n 0, 1) := by decide +kernel
theorem dX3_init_13 : decode cX3_init 13 = .ok (.bipush 10, 2) := by decide +kernel
theorem dX3_init_15 : decode cX3_init 15 = .ok (.newarray .int, 2) := by decide +kernel
theorem dX3_init_17 : decode cX3_init 17 = .ok (.putfield 15, 3) := by decide +kernel
theorem dX3_init_20 : decode cX3_init 20 = .ok (.aload_n 0, 1) := by decide +kernel
theorem dX3_init_21 : decode cX3_init 21 = .ok (.sipush 256, 3) := by decide +kernel
theorem dX3_init_24 : decode cX3_init 24 = .ok (.newarray .int, 2) := by decide +kernel
theorem dX3_init_26 : decode cX3_init 26 = .ok (.putfield 18, 3) := by decide +kernel
theorem dX3_init_29 : decode cX3_init 29 = .ok (.aload_n 0, 1) := by decide +kernel
theorem dX3_init_30 : decode cX3_init 30 = .ok (.iconst 0, 1) := by decide +kernel
theorem dX3_init_31 : decode cX3_init 31 = .ok (.putfield 21, 3) := by decide +kernel
theorem dX3_init_34 : decode cX3_init 34 = .ok (.aload_n 0, 1) := by decide +kernel
theorem dX3_init_35 : decode cX3_init 35 = .ok (.aload_n 1, 1) := by decide +kernel
theorem dX3_init_36 : decode cX3_init 36 = .ok (.invokevirtual 25, 3) := by decide +kernel
theorem dX3_init_39 : decode cX3_init 39 = .ok (.iconst 4, 1) := by decide +kernel
theorem dX3_init_40 : decode cX3_init 40 = .ok (.idiv, 1) := by decide +kernel
theorem dX3_init_41 : decode cX3_init 41 = .ok (.newarray .int, 2) := by decide +kernel
theorem dX3_init_43 : decode cX3_init 43 = .ok (.putfield 30, 3) := by decide +kernel
theorem dX3_init_46 : decode cX3_init 46 = .ok (.iconst 0, 1) := by decide +kernel
theorem dX3_init_47 : decode cX3_init 47 = .ok (.istore_n 2, 1) := by decide +kernel
theorem dX3_init_48 : decode cX3_init 48 = .ok (.iload_n 2, 1) := by decide +kernel
theorem dX3_init_49 : decode cX3_init 49 = .ok (.aload_n 0, 1) := by decide +kernel
theorem dX3_init_50 : decode cX3_init 50 = .ok (.getfield 30, 3) := by decide +kernel
theorem dX3_init_53 : decode cX3_init 53 = .ok (.arraylength, 1) := by decide +kernel
theorem dX3_init_54 : decode cX3_init 54 = .ok (.if_icmp .ge 20, 3) := by decide +kernel
theorem dX3_init_57 : decode cX3_init 57 = .ok (.aload_n 0, 1) := by decide +kernel
theorem dX3_init_58 : decode cX3_init 58 = .ok (.getfield 30, 3) := by decide +kernel
theorem dX3_init_61 : decode cX3_init 61 = .ok (.iload_n 2, 1) := by decide +kernel
theorem dX3_init_62 : decode cX3_init 62 = .ok (.aload_n 1, 1) := by decide +kernel
theorem dX3_init_63 : decode cX3_init 63 = .ok (.iload_n 2, 1) := by decide +kernel
theorem dX3_init_64 : decode cX3_init 64 = .ok (.invokevirtual 33, 3) := by decide +kernel
theorem dX3_init_67 : decode cX3_init 67 = .ok (.iastore, 1) := by decide +kernel
theorem dX3_init_68 : decode cX3_init 68 = .ok (.iinc 2 1, 3) := by decide +kernel
theorem dX3_init_71 : decode cX3_init 71 = .ok (.goto (-23), 3) := by decide +kernel
theorem dX3_init_74 : decode cX3_init 74 = .ok (.aload_n 1, 1) := by decide +kernel
theorem dX3_init_75 : decode cX3_init 75 = .ok (.iconst 2, 1) := by decide +kernel
theorem dX3_init_76 : decode cX3_init 76 = .ok (.invokevirtual 37, 3) := by decide +kernel
theorem dX3_init_79 : decode cX3_init 79 = .ok (.istore_n 2, 1) := by decide +kernel
theorem dX3_init_80 : decode cX3_init 80 = .ok (.aload_n 0, 1) := by decide +kernel
theorem dX3_init_81 : decode cX3_init 81 = .ok (.getfield 15, 3) := by decide +kernel
theorem dX3_init_84 : decode cX3_init 84 = .ok (.iconst 0, 1) := by decide +kernel
theorem dX3_init_85 : decode cX3_init 85 = .ok (.aload_n 1, 1) := by decide +kernel
theorem dX3_init_86 : decode cX3_init 86 = .ok (.iconst 1, 1) := by decide +kernel
theorem dX3_init_87 : decode cX3_init 87 = .ok (.invokevirtual 37, 3) := by decide +kernel
theorem dX3_init_90 : decode cX3_init 90 = .ok (.iastore, 1) := by decide +kernel
theorem dX3_init_91 : decode cX3_init 91 = .ok (.aload_n 0, 1) := by decide +kernel
theorem dX3_init_92 : decode cX3_init 92 = .ok (.getfield 15, 3) := by decide +kernel
theorem dX3_init_95 : decode cX3_init 95 = .ok (.iconst 1, 1) := by decide +kernel
theorem dX3_init_96 : decode cX3_init 96 = .ok (.aload_n 1, 1) := by decide +kernel
theorem dX3_init_97 : decode cX3_init 97 = .ok (.iconst 3, 1) := by decide +kernel
theorem dX3_init_98 : decode cX3_init 98 = .ok (.invokevirtual 37, 3) := by decide +kernel
theorem dX3_init_101 : decode cX3_init 101 = .ok (.iload_n 2, 1) := by decide +kernel
theorem dX3_init_102 : decode cX3_init 102 = .ok (.isub, 1) := by decide +kernel
theorem dX3_init_103 : decode cX3_init 103 = .ok (.iconst 1, 1) := by decide +kernel
theorem dX3_init_104 : decode cX3_init 104 = .ok (.iadd, 1) := by decide +kernel
theorem dX3_init_105 : decode cX3_init 105 = .ok (.iastore, 1) := by decide +kernel
theorem dX3_init_106 : decode cX3_init 106 = .ok (.iconst 2, 1) := by decide +kernel
theorem dX3_init_107 : decode cX3_init 107 = .ok (.istore_n 3, 1) := by decide +kernel
theorem dX3_init_108 : decode cX3_init 108 = .ok (.iload_n 3, 1) := by decide +kernel
theorem dX3_init_109 : decode cX3_init 109 = .ok (.bipush 10, 2) := by decide +kernel
theorem dX3_init_111 : decode cX3_init 111 = .ok (.if_icmp .ge 22, 3) := by decide +kernel
theorem dX3_init_114 : decode cX3_init 114 = .ok (.aload_n 0, 1) := by decide +kernel
theorem dX3_init_115 : decode cX3_init 115 = .ok (.getfield 15, 3) := by decide +kernel
theorem dX3_init_118 : decode cX3_init 118 = .ok (.iload_n 3, 1) := by decide +kernel
theorem dX3_init_119 : decode cX3_init 119 = .ok (.aload_n 1, 1) := by decide +kernel
theorem dX3_init_120 : decode cX3_init 120 = .ok (.iload_n 3, 1) := by decide +kernel
theorem dX3_init_121 : decode cX3_init 121 = .ok (.iconst 2, 1) := by decide +kernel
theorem dX3_init_122 : decode cX3_init 122 = .ok (.iadd, 1) := by decide +kernel
theorem dX3_init_123 : decode cX3_init 123 = .ok (.invokevirtual 37, 3) := by decide +kernel
theorem dX3_init_126 : decode cX3_init 126 = .ok (.iastore, 1) := by decide +kernel
theorem dX3_init_127 : decode cX3_init 127 = .ok (.iinc 3 1, 3) := by decide +kernel
theorem dX3_init_130 : decode cX3_init 130 = .ok (.goto (-22), 3) := by decide +kernel
theorem dX3_init_133 : decode cX3_init 133 = .ok (.bipush 6, 2) := by decide +kernel
theorem dX3_init_135 : decode cX3_init 135 = .ok (.istore_n 3, 1) := by decide +kernel
theorem dX3_init_136 : decode cX3_init 136 = .ok (.iconst 0, 1) := by decide +kernel
theorem dX3_init_137 : decode cX3_init 137 = .ok (.istore 4, 2) := by decide +kernel
theorem dX3_init_139 : decode cX3_init 139 = .ok (.iload 4, 2) := by decide +kernel
theorem dX3_init_141 : decode cX3_init 141 = .ok (.bipush 10, 2) := by decide +kernel
theorem dX3_init_143 : decode cX3_init 143 = .ok (.if_icmp .ge 27, 3) := by decide +kernel
theorem dX3_init_146 : decode cX3_init 146 = .ok (.aload_n 0, 1) := by decide +kernel
theorem dX3_init_147 : decode cX3_init 147 = .ok (.getfield 11, 3) := by decide +kernel
theorem dX3_init_150 : decode cX3_init 150 = .ok (.iload 4, 2) := by decide +kernel
theorem dX3_init_152 : decode cX3_init 152 = .ok (.iload_n 3, 1) := by decide +kernel
theorem dX3_init_153 : decode cX3_init 153 = .ok (.iastore, 1) := by decide +kernel
theorem dX3_init_154 : decode cX3_init 154 = .ok (.iload_n 3, 1) := by decide +kernel
theorem dX3_init_155 : decode cX3_init 155 = .ok (.aload_n 0, 1) := by decide +kernel
theorem dX3_init_156 : decode cX3_init 156 = .ok (.getfield 15, 3) := by decide +kernel
theorem dX3_init_159 : decode cX3_init 159 = .ok (.iload 4, 2) := by decide +kernel
theorem dX3_init_161 : decode cX3_init 161 = .ok (.iaload, 1) := by decide +kernel
theorem dX3_init_162 : decode cX3_init 162 = .ok (.iadd, 1) := by decide +kernel
theorem dX3_init_163 : decode cX3_init 163 = .ok (.istore_n 3, 1) := by decide +kernel
theorem dX3_init_164 : decode cX3_init 164 = .ok (.iinc 4 1, 3) := by decide +kernel
theorem dX3_init_167 : decode cX3_init 167 = .ok (.goto (-28), 3) := by decide +kernel
theorem dX3_init_170 : decode cX3_init 170 = .ok (.iconst 0, 1) := by decide +kernel
theorem dX3_init_171 : decode cX3_init 171 = .ok (.istore 4, 2) := by decide +kernel
theorem dX3_init_173 : decode cX3_init 173 = .ok (.iload 4, 2) := by decide +kernel
theorem dX3_init_175 : decode cX3_init 175 = .ok (.sipush 256, 3) := by decide +kernel
theorem dX3_init_178 : decode cX3_init 178 = .ok (.if_icmp .ge 41, 3) := by decide +kernel
theorem dX3_init_181 : decode cX3_init 181 = .ok (.aload_n 0, 1) := by decide +kernel
theorem dX3_init_182 : decode cX3_init 182 = .ok (.iconst 1, 1) := by decide +kernel
theorem dX3_init_183 : decode cX3_init 183 = .ok (.iload 4, 2) := by decide +kernel
theorem dX3_init_185 : decode cX3_init 185 = .ok (.iload_n 2, 1) := by decide +kernel
theorem dX3_init_186 : decode cX3_init 186 = .ok (.isub, 1) := by decide +kernel
theorem dX3_init_187 : decode cX3_init 187 = .ok (.invokevirtual 40, 3) := by decide +kernel
theorem dX3_init_190 : decode cX3_init 190 = .ok (.istore 5, 2) := by decide +kernel
theorem dX3_init_192 : decode cX3_init 192 = .ok (.aload_n 0, 1) := by decide +kernel
theorem dX3_init_193 : decode cX3_init 193 = .ok (.getfield 18, 3) := by decide +kernel
theorem dX3_init_196 : decode cX3_init 196 = .ok (.iload 4, 2) := by decide +kernel
theorem dX3_init_198 : decode cX3_init 198 = .ok (.iload 5, 2) := by decide +kernel
theorem dX3_init_200 : decode cX3_init 200 = .ok (.bipush 24, 2) := by decide +kernel
theorem dX3_init_202 : decode cX3_init 202 = .ok (.iushr, 1) := by decide +kernel
theorem dX3_init_203 : decode cX3_init 203 = .ok (.ifCond .ne 7, 3) := by decide +kernel
theorem dX3_init_206 : decode cX3_init 206 = .ok (.iconst 0, 1) := by decide +kernel
theorem dX3_init_207 : decode cX3_init 207 = .ok (.goto 5, 3) := by decide +kernel
theorem dX3_init_210 : decode cX3_init 210 = .ok (.iload 5, 2) := by decide +kernel
theorem dX3_init_212 : decode cX3_init 212 = .ok (.iastore, 1) := by decide +kernel
theorem dX3_init_213 : decode cX3_init 213 = .ok (.iinc 4 1, 3) := by decide +kernel
theorem dX3_init_216 : decode cX3_init 216 = .ok (.goto (-43), 3) := by decide +kernel
theorem dX3_init_219 : decode cX3_init 219 = .ok (.return_, 1) := by decide +kernel
theorem dX3_scaleTo_0 : decode cX3_scaleTo 0 = .ok (.aload_n 0, 1) := by decide +kernel
theorem dX3_scaleTo_1 : decode cX3_scaleTo 1 = .ok (.iload_n 1, 1) := by decide +kernel
theorem dX3_scaleTo_2 : decode cX3_scaleTo 2 = .ok (.ifCond .ne 12, 3) := by decide +kernel
theorem dX3_scaleTo_5 : decode cX3_scaleTo 5 = .ok (.aload_n 0, 1) := by decide +kernel
theorem dX3_scaleTo_6 : decode cX3_scaleTo 6 = .ok (.invokevirtual 43, 3) := by decide +kernel
theorem dX3_scaleTo_9 : decode cX3_scaleTo 9 = .ok (.iconst 4, 1) := by decide +kernel
theorem dX3_scaleTo_10 : decode cX3_scaleTo 10 = .ok (.ishr, 1) := by decide +kernel
theorem dX3_scaleTo_11 : decode cX3_scaleTo 11 = .ok (.goto 4, 3) := by decide +kernel
theorem dX3_scaleTo_14 : decode cX3_scaleTo 14 = .ok (.iload_n 1, 1) := by decide +kernel
theorem dX3_scaleTo_15 : decode cX3_scaleTo 15 = .ok (.putfield 21, 3) := by decide +kernel
theorem dX3_scaleTo_18 : decode cX3_scaleTo 18 = .ok (.return_, 1) := by decide +kernel
theorem dX3_rowLength_0 : decode cX3_rowLength 0 = .ok (.iload_n 1, 1) := by decide +kernel
theorem dX3_rowLength_1 : decode cX3_rowLength 1 = .ok (.ifCond .lt 18, 3) := by decide +kernel
theorem dX3_rowLength_4 : decode cX3_rowLength 4 = .ok (.iload_n 1, 1) := by decide +kernel
theorem dX3_rowLength_5 : decode cX3_rowLength 5 = .ok (.bipush 10, 2) := by decide +kernel
theorem dX3_rowLength_7 : decode cX3_rowLength 7 = .ok (.if_icmp .ge 12, 3) := by decide +kernel
theorem dX3_rowLength_10 : decode cX3_rowLength 10 = .ok (.aload_n 0, 1) := by decide +kernel
theorem dX3_rowLength_11 : decode cX3_rowLength 11 = .ok (.getfield 15, 3) := by decide +kernel
theorem dX3_rowLength_14 : decode cX3_rowLength 14 = .ok (.iload_n 1, 1) := by decide +kernel
theorem dX3_rowLength_15 : decode cX3_rowLength 15 = .ok (.iaload, 1) := by decide +kernel
theorem dX3_rowLength_16 : decode cX3_rowLength 16 = .ok (.goto 4, 3) := by decide +kernel
theorem dX3_rowLength_19 : decode cX3_rowLength 19 = .ok (.iconst 0, 1) := by decide +kernel
theorem dX3_rowLength_20 : decode cX3_rowLength 20 = .ok (.ireturn, 1) := by decide +kernel
theorem dX3_wordAt_0 : decode cX3_wordAt 0 = .ok (.iload_n 1, 1) := by decide +kernel
theorem dX3_wordAt_1 : decode cX3_wordAt 1 = .ok (.ifCond .lt 23, 3) := by decide +kernel
theorem dX3_wordAt_4 : decode cX3_wordAt 4 = .ok (.iload_n 1, 1) := by decide +kernel
theorem dX3_wordAt_5 : decode cX3_wordAt 5 = .ok (.bipush 10, 2) := by decide +kernel
theorem dX3_wordAt_7 : decode cX3_wordAt 7 = .ok (.if_icmp .ge 17, 3) := by decide +kernel
theorem dX3_wordAt_10 : decode cX3_wordAt 10 = .ok (.iload_n 2, 1) := by decide +kernel
theorem dX3_wordAt_11 : decode cX3_wordAt 11 = .ok (.ifCond .lt 13, 3) := by decide +kernel
theorem dX3_wordAt_14 : decode cX3_wordAt 14 = .ok (.iload_n 2, 1) := by decide +kernel
theorem dX3_wordAt_15 : decode cX3_wordAt 15 = .ok (.aload_n 0, 1) := by decide +kernel
theorem dX3_wordAt_16 : decode cX3_wordAt 16 = .ok (.getfield 15, 3) := by decide +kernel
theorem dX3_wordAt_19 : decode cX3_wordAt 19 = .ok (.iload_n 1, 1) := by decide +kernel
theorem dX3_wordAt_20 : decode cX3_wordAt 20 = .ok (.iaload, 1) := by decide +kernel
theorem dX3_wordAt_21 : decode cX3_wordAt 21 = .ok (.if_icmp .lt 5, 3) := by decide +kernel
theorem dX3_wordAt_24 : decode cX3_wordAt 24 = .ok (.iconst 0, 1) := by decide +kernel
theorem dX3_wordAt_25 : decode cX3_wordAt 25 = .ok (.ireturn, 1) := by decide +kernel
theorem dX3_wordAt_26 : decode cX3_wordAt 26 = .ok (.aload_n 0, 1) := by decide +kernel
theorem dX3_wordAt_27 : decode cX3_wordAt 27 = .ok (.getfield 11, 3) := by decide +kernel
theorem dX3_wordAt_30 : decode cX3_wordAt 30 = .ok (.iload_n 1, 1) := by decide +kernel
theorem dX3_wordAt_31 : decode cX3_wordAt 31 = .ok (.iaload, 1) := by decide +kernel
theorem dX3_wordAt_32 : decode cX3_wordAt 32 = .ok (.iload_n 2, 1) := by decide +kernel
theorem dX3_wordAt_33 : decode cX3_wordAt 33 = .ok (.iadd, 1) := by decide +kernel
theorem dX3_wordAt_34 : decode cX3_wordAt 34 = .ok (.istore_n 3, 1) := by decide +kernel
theorem dX3_wordAt_35 : decode cX3_wordAt 35 = .ok (.iload_n 3, 1) := by decide +kernel
theorem dX3_wordAt_36 : decode cX3_wordAt 36 = .ok (.ifCond .lt 21, 3) := by decide +kernel
theorem dX3_wordAt_39 : decode cX3_wordAt 39 = .ok (.iload_n 3, 1) := by decide +kernel
theorem dX3_wordAt_40 : decode cX3_wordAt 40 = .ok (.aload_n 0, 1) := by decide +kernel
theorem dX3_wordAt_41 : decode cX3_wordAt 41 = .ok (.getfield 30, 3) := by decide +kernel
theorem dX3_wordAt_44 : decode cX3_wordAt 44 = .ok (.arraylength, 1) := by decide +kernel
theorem dX3_wordAt_45 : decode cX3_wordAt 45 = .ok (.if_icmp .ge 12, 3) := by decide +kernel
theorem dX3_wordAt_48 : decode cX3_wordAt 48 = .ok (.aload_n 0, 1) := by decide +kernel
theorem dX3_wordAt_49 : decode cX3_wordAt 49 = .ok (.getfield 30, 3) := by decide +kernel
theorem dX3_wordAt_52 : decode cX3_wordAt 52 = .ok (.iload_n 3, 1) := by decide +kernel
theorem dX3_wordAt_53 : decode cX3_wordAt 53 = .ok (.iaload, 1) := by decide +kernel
theorem dX3_wordAt_54 : decode cX3_wordAt 54 = .ok (.goto 4, 3) := by decide +kernel
theorem dX3_wordAt_57 : decode cX3_wordAt 57 = .ok (.iconst 0, 1) := by decide +kernel
theorem dX3_wordAt_58 : decode cX3_wordAt 58 = .ok (.ireturn, 1) := by decide +kernel
theorem dX3_designSize_0 : decode cX3_designSize 0 = .ok (.aload_n 0, 1) := by decide +kernel
theorem dX3_designSize_1 : decode cX3_designSize 1 = .ok (.iconst 0, 1) := by decide +kernel
theorem dX3_designSize_2 : decode cX3_designSize 2 = .ok (.iconst 1, 1) := by decide +kernel
theorem dX3_designSize_3 : decode cX3_designSize 3 = .ok (.invokevirtual 40, 3) := by decide +kernel
theorem dX3_designSize_6 : decode cX3_designSize 6 = .ok (.ireturn, 1) := by decide +kernel
theorem dX3_infoOf_0 : decode cX3_infoOf 0 = .ok (.iload_n 1, 1) := by decide +kernel
theorem dX3_infoOf_1 : decode cX3_infoOf 1 = .ok (.ifCond .lt 19, 3) := by decide +kernel
theorem dX3_infoOf_4 : decode cX3_infoOf 4 = .ok (.iload_n 1, 1) := by decide +kernel
theorem dX3_infoOf_5 : decode cX3_infoOf 5 = .ok (.sipush 256, 3) := by decide +kernel
theorem dX3_infoOf_8 : decode cX3_infoOf 8 = .ok (.if_icmp .ge 12, 3) := by decide +kernel
theorem dX3_infoOf_11 : decode cX3_infoOf 11 = .ok (.aload_n 0, 1) := by decide +kernel
theorem dX3_infoOf_12 : decode cX3_infoOf 12 = .ok (.getfield 18, 3) := by decide +kernel
theorem dX3_infoOf_15 : decode cX3_infoOf 15 = .ok (.iload_n 1, 1) := by decide +kernel
theorem dX3_infoOf_16 : decode cX3_infoOf 16 = .ok (.iaload, 1) := by decide +kernel
theorem dX3_infoOf_17 : decode cX3_infoOf 17 = .ok (.goto 4, 3) := by decide +kernel
theorem dX3_infoOf_20 : decode cX3_infoOf 20 = .ok (.iconst 0, 1) := by decide +kernel
theorem dX3_infoOf_21 : decode cX3_infoOf 21 = .ok (.ireturn, 1) := by decide +kernel
theorem dX3_hasCharacter_0 : decode cX3_hasCharacter 0 = .ok (.aload_n 0, 1) := by decide +kernel
theorem dX3_hasCharacter_1 : decode cX3_hasCharacter 1 = .ok (.iload_n 1, 1) := by decide +kernel
theorem dX3_hasCharacter_2 : decode cX3_hasCharacter 2 = .ok (.invokevirtual 46, 3) := by decide +kernel
theorem dX3_hasCharacter_5 : decode cX3_hasCharacter 5 = .ok (.ifCond .eq 7, 3) := by decide +kernel
theorem dX3_hasCharacter_8 : decode cX3_hasCharacter 8 = .ok (.iconst 1, 1) := by decide +kernel
theorem dX3_hasCharacter_9 : decode cX3_hasCharacter 9 = .ok (.goto 4, 3) := by decide +kernel
theorem dX3_hasCharacter_12 : decode cX3_hasCharacter 12 = .ok (.iconst 0, 1) := by decide +kernel
theorem dX3_hasCharacter_13 : decode cX3_hasCharacter 13 = .ok (.ireturn, 1) := by decide +kernel
theorem dX3_tagOf_0 : decode cX3_tagOf 0 = .ok (.aload_n 0, 1) := by decide +kernel
theorem dX3_tagOf_1 : decode cX3_tagOf 1 = .ok (.iload_n 1, 1) := by decide +kernel
theorem dX3_tagOf_2 : decode cX3_tagOf 2 = .ok (.invokevirtual 46, 3) := by decide +kernel
theorem dX3_tagOf_5 : decode cX3_tagOf 5 = .ok (.bipush 8, 2) := by decide +kernel
theorem dX3_tagOf_7 : decode cX3_tagOf 7 = .ok (.iushr, 1) := by decide +kernel
theorem dX3_tagOf_8 : decode cX3_tagOf 8 = .ok (.iconst 3, 1) := by decide +kernel
theorem dX3_tagOf_9 : decode cX3_tagOf 9 = .ok (.iand, 1) := by decide +kernel
theorem dX3_tagOf_10 : decode cX3_tagOf 10 = .ok (.ireturn, 1) := by decide +kernel
theorem dX3_restOf_0 : decode cX3_restOf 0 = .ok (.aload_n 0, 1) := by decide +kernel
theorem dX3_restOf_1 : decode cX3_restOf 1 = .ok (.iload_n 1, 1) := by decide +kernel
theorem dX3_restOf_2 : decode cX3_restOf 2 = .ok (.invokevirtual 46, 3) := by decide +kernel
theorem dX3_restOf_5 : decode cX3_restOf 5 = .ok (.sipush 255, 3) := by decide +kernel
theorem dX3_restOf_8 : decode cX3_restOf 8 = .ok (.iand, 1) := by decide +kernel
theorem dX3_restOf_9 : decode cX3_restOf 9 = .ok (.ireturn, 1) := by decide +kernel
theorem dX3_placeOf_0 : decode cX3_placeOf 0 = .ok (.aload_n 0, 1) := by decide +kernel
theorem dX3_placeOf_1 : decode cX3_placeOf 1 = .ok (.iload_n 1, 1) := by decide +kernel
theorem dX3_placeOf_2 : decode cX3_placeOf 2 = .ok (.invokevirtual 46, 3) := by decide +kernel
theorem dX3_placeOf_5 : decode cX3_placeOf 5 = .ok (.istore_n 3, 1) := by decide +kernel
theorem dX3_placeOf_6 : decode cX3_placeOf 6 = .ok (.iload_n 2, 1) := by decide +kernel
theorem dX3_placeOf_7 : decode cX3_placeOf 7 = .ok (.tableswitch 46 0 2 #[25, 30, 38], 25) := by decide +kernel
theorem dX3_placeOf_32 : decode cX3_placeOf 32 = .ok (.iload_n 3, 1) := by decide +kernel
theorem dX3_placeOf_33 : decode cX3_placeOf 33 = .ok (.bipush 24, 2) := by decide +kernel
theorem dX3_placeOf_35 : decode cX3_placeOf 35 = .ok (.iushr, 1) := by decide +kernel
theorem dX3_placeOf_36 : decode cX3_placeOf 36 = .ok (.ireturn, 1) := by decide +kernel
theorem dX3_placeOf_37 : decode cX3_placeOf 37 = .ok (.iload_n 3, 1) := by decide +kernel
theorem dX3_placeOf_38 : decode cX3_placeOf 38 = .ok (.bipush 20, 2) := by decide +kernel
theorem dX3_placeOf_40 : decode cX3_placeOf 40 = .ok (.iushr, 1) := by decide +kernel
theorem dX3_placeOf_41 : decode cX3_placeOf 41 = .ok (.bipush 15, 2) := by decide +kernel
theorem dX3_placeOf_43 : decode cX3_placeOf 43 = .ok (.iand, 1) := by decide +kernel
theorem dX3_placeOf_44 : decode cX3_placeOf 44 = .ok (.ireturn, 1) := by decide +kernel
theorem dX3_placeOf_45 : decode cX3_placeOf 45 = .ok (.iload_n 3, 1) := by decide +kernel
theorem dX3_placeOf_46 : decode cX3_placeOf 46 = .ok (.bipush 16, 2) := by decide +kernel
theorem dX3_placeOf_48 : decode cX3_placeOf 48 = .ok (.iushr, 1) := by decide +kernel
theorem dX3_placeOf_49 : decode cX3_placeOf 49 = .ok (.bipush 15, 2) := by decide +kernel
theorem dX3_placeOf_51 : decode cX3_placeOf 51 = .ok (.iand, 1) := by decide +kernel
theorem dX3_placeOf_52 : decode cX3_placeOf 52 = .ok (.ireturn, 1) := by decide +kernel
theorem dX3_placeOf_53 : decode cX3_placeOf 53 = .ok (.iload_n 3, 1) := by decide +kernel
theorem dX3_placeOf_54 : decode cX3_placeOf 54 = .ok (.bipush 10, 2) := by decide +kernel
theorem dX3_placeOf_56 : decode cX3_placeOf 56 = .ok (.iushr, 1) := by decide +kernel
theorem dX3_placeOf_57 : decode cX3_placeOf 57 = .ok (.bipush 63, 2) := by decide +kernel
theorem dX3_placeOf_59 : decode cX3_placeOf 59 = .ok (.iand, 1) := by decide +kernel
theorem dX3_placeOf_60 : decode cX3_placeOf 60 = .ok (.ireturn, 1) := by decide +kernel
theorem dX3_scaled_0 : decode cX3_scaled 0 = .ok (.iload_n 1, 1) := by decide +kernel
theorem dX3_scaled_1 : decode cX3_scaled 1 = .ok (.i2l, 1) := by decide +kernel
theorem dX3_scaled_2 : decode cX3_scaled 2 = .ok (.aload_n 0, 1) := by decide +kernel
theorem dX3_scaled_3 : decode cX3_scaled 3 = .ok (.getfield 21, 3) := by decide +kernel
theorem dX3_scaled_6 : decode cX3_scaled 6 = .ok (.i2l, 1) := by decide +kernel
theorem dX3_scaled_7 : decode cX3_scaled 7 = .ok (.lmul, 1) := by decide +kernel
theorem dX3_scaled_8 : decode cX3_scaled 8 = .ok (.bipush 20, 2) := by decide +kernel
theorem dX3_scaled_10 : decode cX3_scaled 10 = .ok (.lshr, 1) := by decide +kernel
theorem dX3_scaled_11 : decode cX3_scaled 11 = .ok (.l2i, 1) := by decide +kernel
theorem dX3_scaled_12 : decode cX3_scaled 12 = .ok (.ireturn, 1) := by decide +kernel
theorem dX3_measure_0 : decode cX3_measure 0 = .ok (.iload_n 2, 1) := by decide +kernel
theorem dX3_measure_1 : decode cX3_measure 1 = .ok (.iconst 4, 1) := by decide +kernel
theorem dX3_measure_2 : decode cX3_measure 2 = .ok (.if_icmp .ne 9, 3) := by decide +kernel
theorem dX3_measure_5 : decode cX3_measure 5 = .ok (.aload_n 0, 1) := by decide +kernel
theorem dX3_measure_6 : decode cX3_measure 6 = .ok (.iload_n 1, 1) := by decide +kernel
theorem dX3_measure_7 : decode cX3_measure 7 = .ok (.invokevirtual 49, 3) := by decide +kernel
theorem dX3_measure_10 : decode cX3_measure 10 = .ok (.ireturn, 1) := by decide +kernel
theorem dX3_measure_11 : decode cX3_measure 11 = .ok (.iload_n 2, 1) := by decide +kernel
theorem dX3_measure_12 : decode cX3_measure 12 = .ok (.iconst 5, 1) := by decide +kernel
theorem dX3_measure_13 : decode cX3_measure 13 = .ok (.if_icmp .ne 21, 3) := by decide +kernel
theorem dX3_measure_16 : decode cX3_measure 16 = .ok (.aload_n 0, 1) := by decide +kernel
theorem dX3_measure_17 : decode cX3_measure 17 = .ok (.iload_n 1, 1) := by decide +kernel
theorem dX3_measure_18 : decode cX3_measure 18 = .ok (.invokevirtual 49, 3) := by decide +kernel
theorem dX3_measure_21 : decode cX3_measure 21 = .ok (.ifCond .ne 7, 3) := by decide +kernel
theorem dX3_measure_24 : decode cX3_measure 24 = .ok (.iconst 0, 1) := by decide +kernel
theorem dX3_measure_25 : decode cX3_measure 25 = .ok (.goto 8, 3) := by decide +kernel
theorem dX3_measure_28 : decode cX3_measure 28 = .ok (.aload_n 0, 1) := by decide +kernel
theorem dX3_measure_29 : decode cX3_measure 29 = .ok (.iload_n 1, 1) := by decide +kernel
theorem dX3_measure_30 : decode cX3_measure 30 = .ok (.invokevirtual 52, 3) := by decide +kernel
theorem dX3_measure_33 : decode cX3_measure 33 = .ok (.ireturn, 1) := by decide +kernel
theorem dX3_measure_34 : decode cX3_measure 34 = .ok (.aload_n 0, 1) := by decide +kernel
theorem dX3_measure_35 : decode cX3_measure 35 = .ok (.aload_n 0, 1) := by decide +kernel
theorem dX3_measure_36 : decode cX3_measure 36 = .ok (.iconst 2, 1) := by decide +kernel
theorem dX3_measure_37 : decode cX3_measure 37 = .ok (.iload_n 2, 1) := by decide +kernel
theorem dX3_measure_38 : decode cX3_measure 38 = .ok (.iadd, 1) := by decide +kernel
theorem dX3_measure_39 : decode cX3_measure 39 = .ok (.aload_n 0, 1) := by decide +kernel
theorem dX3_measure_40 : decode cX3_measure 40 = .ok (.iload_n 1, 1) := by decide +kernel
theorem dX3_measure_41 : decode cX3_measure 41 = .ok (.iload_n 2, 1) := by decide +kernel
theorem dX3_measure_42 : decode cX3_measure 42 = .ok (.invokevirtual 55, 3) := by decide +kernel
theorem dX3_measure_45 : decode cX3_measure 45 = .ok (.invokevirtual 40, 3) := by decide +kernel
theorem dX3_measure_48 : decode cX3_measure 48 = .ok (.invokevirtual 58, 3) := by decide +kernel
theorem dX3_measure_51 : decode cX3_measure 51 = .ok (.ireturn, 1) := by decide +kernel
theorem dX3_scaledParameter_0 : decode cX3_scaledParameter 0 = .ok (.aload_n 0, 1) := by decide +kernel
theorem dX3_scaledParameter_1 : decode cX3_scaledParameter 1 = .ok (.bipush 9, 2) := by decide +kernel
theorem dX3_scaledParameter_3 : decode cX3_scaledParameter 3 = .ok (.iload_n 1, 1) := by decide +kernel
theorem dX3_scaledParameter_4 : decode cX3_scaledParameter 4 = .ok (.iconst 1, 1) := by decide +kernel
theorem dX3_scaledParameter_5 : decode cX3_scaledParameter 5 = .ok (.isub, 1) := by decide +kernel
theorem dX3_scaledParameter_6 : decode cX3_scaledParameter 6 = .ok (.invokevirtual 40, 3) := by decide +kernel
theorem dX3_scaledParameter_9 : decode cX3_scaledParameter 9 = .ok (.istore_n 2, 1) := by decide +kernel
theorem dX3_scaledParameter_10 : decode cX3_scaledParameter 10 = .ok (.iload_n 1, 1) := by decide +kernel
theorem dX3_scaledParameter_11 : decode cX3_scaledParameter 11 = .ok (.iconst 1, 1) := by decide +kernel
theorem dX3_scaledParameter_12 : decode cX3_scaledParameter 12 = .ok (.if_icmp .ne 9, 3) := by decide +kernel
theorem dX3_scaledParameter_15 : decode cX3_scaledParameter 15 = .ok (.iload_n 2, 1) := by decide +kernel
theorem dX3_scaledParameter_16 : decode cX3_scaledParameter 16 = .ok (.iconst 4, 1) := by decide +kernel
theorem dX3_scaledParameter_17 : decode cX3_scaledParameter 17 = .ok (.ishr, 1) := by decide +kernel
theorem dX3_scaledParameter_18 : decode cX3_scaledParameter 18 = .ok (.goto 8, 3) := by decide +kernel
theorem dX3_scaledParameter_21 : decode cX3_scaledParameter 21 = .ok (.aload_n 0, 1) := by decide +kernel
theorem dX3_scaledParameter_22 : decode cX3_scaledParameter 22 = .ok (.iload_n 2, 1) := by decide +kernel
theorem dX3_scaledParameter_23 : decode cX3_scaledParameter 23 = .ok (.invokevirtual 58, 3) := by decide +kernel
theorem dX3_scaledParameter_26 : decode cX3_scaledParameter 26 = .ok (.ireturn, 1) := by decide +kernel
theorem dX3_skipOf_0 : decode cX3_skipOf 0 = .ok (.aload_n 0, 1) := by decide +kernel
theorem dX3_skipOf_1 : decode cX3_skipOf 1 = .ok (.bipush 6, 2) := by decide +kernel
theorem dX3_skipOf_3 : decode cX3_skipOf 3 = .ok (.iload_n 1, 1) := by decide +kernel
theorem dX3_skipOf_4 : decode cX3_skipOf 4 = .ok (.invokevirtual 40, 3) := by decide +kernel
theorem dX3_skipOf_7 : decode cX3_skipOf 7 = .ok (.bipush 24, 2) := by decide +kernel
theorem dX3_skipOf_9 : decode cX3_skipOf 9 = .ok (.iushr, 1) := by decide +kernel
theorem dX3_skipOf_10 : decode cX3_skipOf 10 = .ok (.ireturn, 1) := by decide +kernel
theorem dX3_signOf_0 : decode cX3_signOf 0 = .ok (.aload_n 0, 1) := by decide +kernel
theorem dX3_signOf_1 : decode cX3_signOf 1 = .ok (.bipush 6, 2) := by decide +kernel
theorem dX3_signOf_3 : decode cX3_signOf 3 = .ok (.iload_n 1, 1) := by decide +kernel
theorem dX3_signOf_4 : decode cX3_signOf 4 = .ok (.invokevirtual 40, 3) := by decide +kernel
theorem dX3_signOf_7 : decode cX3_signOf 7 = .ok (.bipush 16, 2) := by decide +kernel
theorem dX3_signOf_9 : decode cX3_signOf 9 = .ok (.iushr, 1) := by decide +kernel
theorem dX3_signOf_10 : decode cX3_signOf 10 = .ok (.sipush 255, 3) := by decide +kernel
theorem dX3_signOf_13 : decode cX3_signOf 13 = .ok (.iand, 1) := by decide +kernel
theorem dX3_signOf_14 : decode cX3_signOf 14 = .ok (.ireturn, 1) := by decide +kernel
theorem dX3_deedOf_0 : decode cX3_deedOf 0 = .ok (.aload_n 0, 1) := by decide +kernel
theorem dX3_deedOf_1 : decode cX3_deedOf 1 = .ok (.bipush 6, 2) := by decide +kernel
theorem dX3_deedOf_3 : decode cX3_deedOf 3 = .ok (.iload_n 1, 1) := by decide +kernel
theorem dX3_deedOf_4 : decode cX3_deedOf 4 = .ok (.invokevirtual 40, 3) := by decide +kernel
theorem dX3_deedOf_7 : decode cX3_deedOf 7 = .ok (.bipush 8, 2) := by decide +kernel
theorem dX3_deedOf_9 : decode cX3_deedOf 9 = .ok (.iushr, 1) := by decide +kernel
theorem dX3_deedOf_10 : decode cX3_deedOf 10 = .ok (.sipush 255, 3) := by decide +kernel
theorem dX3_deedOf_13 : decode cX3_deedOf 13 = .ok (.iand, 1) := by decide +kernel
theorem dX3_deedOf_14 : decode cX3_deedOf 14 = .ok (.ireturn, 1) := by decide +kernel
theorem dX3_remainderOf_0 : decode cX3_remainderOf 0 = .ok (.aload_n 0, 1) := by decide +kernel
theorem dX3_remainderOf_1 : decode cX3_remainderOf 1 = .ok (.bipush 6, 2) := by decide +kernel
theorem dX3_remainderOf_3 : decode cX3_remainderOf 3 = .ok (.iload_n 1, 1) := by decide +kernel
theorem dX3_remainderOf_4 : decode cX3_remainderOf 4 = .ok (.invokevirtual 40, 3) := by decide +kernel
theorem dX3_remainderOf_7 : decode cX3_remainderOf 7 = .ok (.sipush 255, 3) := by decide +kernel
theorem dX3_remainderOf_10 : decode cX3_remainderOf 10 = .ok (.iand, 1) := by decide +kernel
theorem dX3_remainderOf_11 : decode cX3_remainderOf 11 = .ok (.ireturn, 1) := by decide +kernel
theorem dX3_isJump_0 : decode cX3_isJump 0 = .ok (.aload_n 0, 1) := by decide +kernel
theorem dX3_isJump_1 : decode cX3_isJump 1 = .ok (.iload_n 1, 1) := by decide +kernel
theorem dX3_isJump_2 : decode cX3_isJump 2 = .ok (.invokevirtual 61, 3) := by decide +kernel
theorem dX3_isJump_5 : decode cX3_isJump 5 = .ok (.sipush 128, 3) := by decide +kernel
theorem dX3_isJump_8 : decode cX3_isJump 8 = .ok (.if_icmp .le 7, 3) := by decide +kernel
theorem dX3_isJump_11 : decode cX3_isJump 11 = .ok (.iconst 1, 1) := by decide +kernel
theorem dX3_isJump_12 : decode cX3_isJump 12 = .ok (.goto 4, 3) := by decide +kernel
theorem dX3_isJump_15 : decode cX3_isJump 15 = .ok (.iconst 0, 1) := by decide +kernel
theorem dX3_isJump_16 : decode cX3_isJump 16 = .ok (.ireturn, 1) := by decide +kernel
theorem dX3_targetOf_0 : decode cX3_targetOf 0 = .ok (.sipush 256, 3) := by decide +kernel
theorem dX3_targetOf_3 : decode cX3_targetOf 3 = .ok (.aload_n 0, 1) := by decide +kernel
theorem dX3_targetOf_4 : decode cX3_targetOf 4 = .ok (.iload_n 1, 1) := by decide +kernel
theorem dX3_targetOf_5 : decode cX3_targetOf 5 = .ok (.invokevirtual 64, 3) := by decide +kernel
theorem dX3_targetOf_8 : decode cX3_targetOf 8 = .ok (.imul, 1) := by decide +kernel
theorem dX3_targetOf_9 : decode cX3_targetOf 9 = .ok (.aload_n 0, 1) := by decide +kernel
theorem dX3_targetOf_10 : decode cX3_targetOf 10 = .ok (.iload_n 1, 1) := by decide +kernel
theorem dX3_targetOf_11 : decode cX3_targetOf 11 = .ok (.invokevirtual 67, 3) := by decide +kernel
theorem dX3_targetOf_14 : decode cX3_targetOf 14 = .ok (.iadd, 1) := by decide +kernel
theorem dX3_targetOf_15 : decode cX3_targetOf 15 = .ok (.ireturn, 1) := by decide +kernel
theorem dX3_isKern_0 : decode cX3_isKern 0 = .ok (.aload_n 0, 1) := by decide +kernel
theorem dX3_isKern_1 : decode cX3_isKern 1 = .ok (.iload_n 1, 1) := by decide +kernel
theorem dX3_isKern_2 : decode cX3_isKern 2 = .ok (.invokevirtual 64, 3) := by decide +kernel
theorem dX3_isKern_5 : decode cX3_isKern 5 = .ok (.sipush 128, 3) := by decide +kernel
theorem dX3_isKern_8 : decode cX3_isKern 8 = .ok (.if_icmp .lt 7, 3) := by decide +kernel
theorem dX3_isKern_11 : decode cX3_isKern 11 = .ok (.iconst 1, 1) := by decide +kernel
theorem dX3_isKern_12 : decode cX3_isKern 12 = .ok (.goto 4, 3) := by decide +kernel
theorem dX3_isKern_15 : decode cX3_isKern 15 = .ok (.iconst 0, 1) := by decide +kernel
theorem dX3_isKern_16 : decode cX3_isKern 16 = .ok (.ireturn, 1) := by decide +kernel
theorem dX3_kernPlaceOf_0 : decode cX3_kernPlaceOf 0 = .ok (.sipush 256, 3) := by decide +kernel
theorem dX3_kernPlaceOf_3 : decode cX3_kernPlaceOf 3 = .ok (.aload_n 0, 1) := by decide +kernel
theorem dX3_kernPlaceOf_4 : decode cX3_kernPlaceOf 4 = .ok (.iload_n 1, 1) := by decide +kernel
theorem dX3_kernPlaceOf_5 : decode cX3_kernPlaceOf 5 = .ok (.invokevirtual 64, 3) := by decide +kernel
theorem dX3_kernPlaceOf_8 : decode cX3_kernPlaceOf 8 = .ok (.sipush 128, 3) := by decide +kernel
theorem dX3_kernPlaceOf_11 : decode cX3_kernPlaceOf 11 = .ok (.isub, 1) := by decide +kernel
theorem dX3_kernPlaceOf_12 : decode cX3_kernPlaceOf 12 = .ok (.imul, 1) := by decide +kernel
theorem dX3_kernPlaceOf_13 : decode cX3_kernPlaceOf 13 = .ok (.aload_n 0, 1) := by decide +kernel
theorem dX3_kernPlaceOf_14 : decode cX3_kernPlaceOf 14 = .ok (.iload_n 1, 1) := by decide +kernel
theorem dX3_kernPlaceOf_15 : decode cX3_kernPlaceOf 15 = .ok (.invokevirtual 67, 3) := by decide +kernel
theorem dX3_kernPlaceOf_18 : decode cX3_kernPlaceOf 18 = .ok (.iadd, 1) := by decide +kernel
theorem dX3_kernPlaceOf_19 : decode cX3_kernPlaceOf 19 = .ok (.ireturn, 1) := by decide +kernel
theorem dX3_scaledKern_0 : decode cX3_scaledKern 0 = .ok (.aload_n 0, 1) := by decide +kernel
theorem dX3_scaledKern_1 : decode cX3_scaledKern 1 = .ok (.aload_n 0, 1) := by decide +kernel
theorem dX3_scaledKern_2 : decode cX3_scaledKern 2 = .ok (.bipush 7, 2) := by decide +kernel
theorem dX3_scaledKern_4 : decode cX3_scaledKern 4 = .ok (.aload_n 0, 1) := by decide +kernel
theorem dX3_scaledKern_5 : decode cX3_scaledKern 5 = .ok (.iload_n 1, 1) := by decide +kernel
theorem dX3_scaledKern_6 : decode cX3_scaledKern 6 = .ok (.invokevirtual 70, 3) := by decide +kernel
theorem dX3_scaledKern_9 : decode cX3_scaledKern 9 = .ok (.invokevirtual 40, 3) := by decide +kernel
theorem dX3_scaledKern_12 : decode cX3_scaledKern 12 = .ok (.invokevirtual 58, 3) := by decide +kernel
theorem dX3_scaledKern_15 : decode cX3_scaledKern 15 = .ok (.ireturn, 1) := by decide +kernel
theorem dX3_boundary_0 : decode cX3_boundary 0 = .ok (.aload_n 0, 1) := by decide +kernel
theorem dX3_boundary_1 : decode cX3_boundary 1 = .ok (.iconst 0, 1) := by decide +kernel
theorem dX3_boundary_2 : decode cX3_boundary 2 = .ok (.invokevirtual 61, 3) := by decide +kernel
theorem dX3_boundary_5 : decode cX3_boundary 5 = .ok (.sipush 255, 3) := by decide +kernel
theorem dX3_boundary_8 : decode cX3_boundary 8 = .ok (.if_icmp .ne 11, 3) := by decide +kernel
theorem dX3_boundary_11 : decode cX3_boundary 11 = .ok (.aload_n 0, 1) := by decide +kernel
theorem dX3_boundary_12 : decode cX3_boundary 12 = .ok (.iconst 0, 1) := by decide +kernel
theorem dX3_boundary_13 : decode cX3_boundary 13 = .ok (.invokevirtual 73, 3) := by decide +kernel
theorem dX3_boundary_16 : decode cX3_boundary 16 = .ok (.goto 4, 3) := by decide +kernel
theorem dX3_boundary_19 : decode cX3_boundary 19 = .ok (.iconst (-1), 1) := by decide +kernel
theorem dX3_boundary_20 : decode cX3_boundary 20 = .ok (.ireturn, 1) := by decide +kernel
theorem dX3_programStart_0 : decode cX3_programStart 0 = .ok (.iconst (-1), 1) := by decide +kernel
theorem dX3_programStart_1 : decode cX3_programStart 1 = .ok (.istore_n 2, 1) := by decide +kernel
theorem dX3_programStart_2 : decode cX3_programStart 2 = .ok (.iload_n 1, 1) := by decide +kernel
theorem dX3_programStart_3 : decode cX3_programStart 3 = .ok (.sipush 256, 3) := by decide +kernel
theorem dX3_programStart_6 : decode cX3_programStart 6 = .ok (.if_icmp .ne 32, 3) := by decide +kernel
theorem dX3_programStart_9 : decode cX3_programStart 9 = .ok (.aload_n 0, 1) := by decide +kernel
theorem dX3_programStart_10 : decode cX3_programStart 10 = .ok (.bipush 6, 2) := by decide +kernel
theorem dX3_programStart_12 : decode cX3_programStart 12 = .ok (.invokevirtual 76, 3) := by decide +kernel
theorem dX3_programStart_15 : decode cX3_programStart 15 = .ok (.iconst 1, 1) := by decide +kernel
theorem dX3_programStart_16 : decode cX3_programStart 16 = .ok (.isub, 1) := by decide +kernel
theorem dX3_programStart_17 : decode cX3_programStart 17 = .ok (.istore_n 3, 1) := by decide +kernel
theorem dX3_programStart_18 : decode cX3_programStart 18 = .ok (.aload_n 0, 1) := by decide +kernel
theorem dX3_programStart_19 : decode cX3_programStart 19 = .ok (.iload_n 3, 1) := by decide +kernel
theorem dX3_programStart_20 : decode cX3_programStart 20 = .ok (.invokevirtual 61, 3) := by decide +kernel
theorem dX3_programStart_23 : decode cX3_programStart 23 = .ok (.sipush 255, 3) := by decide +kernel
theorem dX3_programStart_26 : decode cX3_programStart 26 = .ok (.if_icmp .ne 7, 3) := by decide +kernel
theorem dX3_programStart_29 : decode cX3_programStart 29 = .ok (.iload_n 3, 1) := by decide +kernel
theorem dX3_programStart_30 : decode cX3_programStart 30 = .ok (.goto 4, 3) := by decide +kernel
theorem dX3_programStart_33 : decode cX3_programStart 33 = .ok (.iconst (-1), 1) := by decide +kernel
theorem dX3_programStart_34 : decode cX3_programStart 34 = .ok (.istore_n 2, 1) := by decide +kernel
theorem dX3_programStart_35 : decode cX3_programStart 35 = .ok (.goto 18, 3) := by decide +kernel
theorem dX3_programStart_38 : decode cX3_programStart 38 = .ok (.aload_n 0, 1) := by decide +kernel
theorem dX3_programStart_39 : decode cX3_programStart 39 = .ok (.iload_n 1, 1) := by decide +kernel
theorem dX3_programStart_40 : decode cX3_programStart 40 = .ok (.invokevirtual 49, 3) := by decide +kernel
theorem dX3_programStart_43 : decode cX3_programStart 43 = .ok (.iconst 1, 1) := by decide +kernel
theorem dX3_programStart_44 : decode cX3_programStart 44 = .ok (.if_icmp .ne 9, 3) := by decide +kernel
theorem dX3_programStart_47 : decode cX3_programStart 47 = .ok (.aload_n 0, 1) := by decide +kernel
theorem dX3_programStart_48 : decode cX3_programStart 48 = .ok (.iload_n 1, 1) := by decide +kernel
theorem dX3_programStart_49 : decode cX3_programStart 49 = .ok (.invokevirtual 52, 3) := by decide +kernel
theorem dX3_programStart_52 : decode cX3_programStart 52 = .ok (.istore_n 2, 1) := by decide +kernel
theorem dX3_programStart_53 : decode cX3_programStart 53 = .ok (.aload_n 0, 1) := by decide +kernel
theorem dX3_programStart_54 : decode cX3_programStart 54 = .ok (.iload_n 2, 1) := by decide +kernel
theorem dX3_programStart_55 : decode cX3_programStart 55 = .ok (.invokevirtual 79, 3) := by decide +kernel
theorem dX3_programStart_58 : decode cX3_programStart 58 = .ok (.ifCond .ne 5, 3) := by decide +kernel
theorem dX3_programStart_61 : decode cX3_programStart 61 = .ok (.iload_n 2, 1) := by decide +kernel
theorem dX3_programStart_62 : decode cX3_programStart 62 = .ok (.ireturn, 1) := by decide +kernel
theorem dX3_programStart_63 : decode cX3_programStart 63 = .ok (.aload_n 0, 1) := by decide +kernel
theorem dX3_programStart_64 : decode cX3_programStart 64 = .ok (.iload_n 2, 1) := by decide +kernel
theorem dX3_programStart_65 : decode cX3_programStart 65 = .ok (.invokevirtual 83, 3) := by decide +kernel
theorem dX3_programStart_68 : decode cX3_programStart 68 = .ok (.istore_n 3, 1) := by decide +kernel
theorem dX3_programStart_69 : decode cX3_programStart 69 = .ok (.aload_n 0, 1) := by decide +kernel
theorem dX3_programStart_70 : decode cX3_programStart 70 = .ok (.iload_n 3, 1) := by decide +kernel
theorem dX3_programStart_71 : decode cX3_programStart 71 = .ok (.invokevirtual 79, 3) := by decide +kernel
theorem dX3_programStart_74 : decode cX3_programStart 74 = .ok (.ifCond .eq 7, 3) := by decide +kernel
theorem dX3_programStart_77 : decode cX3_programStart 77 = .ok (.iconst (-1), 1) := by decide +kernel
theorem dX3_programStart_78 : decode cX3_programStart 78 = .ok (.goto 4, 3) := by decide +kernel
theorem dX3_programStart_81 : decode cX3_programStart 81 = .ok (.iload_n 3, 1) := by decide +kernel
theorem dX3_programStart_82 : decode cX3_programStart 82 = .ok (.ireturn, 1) := by decide +kernel
theorem dX3_nextStep_0 : decode cX3_nextStep 0 = .ok (.aload_n 0, 1) := by decide +kernel
theorem dX3_nextStep_1 : decode cX3_nextStep 1 = .ok (.iload_n 1, 1) := by decide +kernel
theorem dX3_nextStep_2 : decode cX3_nextStep 2 = .ok (.invokevirtual 61, 3) := by decide +kernel
theorem dX3_nextStep_5 : decode cX3_nextStep 5 = .ok (.istore_n 2, 1) := by decide +kernel
theorem dX3_nextStep_6 : decode cX3_nextStep 6 = .ok (.iload_n 2, 1) := by decide +kernel
theorem dX3_nextStep_7 : decode cX3_nextStep 7 = .ok (.sipush 128, 3) := by decide +kernel
theorem dX3_nextStep_10 : decode cX3_nextStep 10 = .ok (.if_icmp .lt 7, 3) := by decide +kernel
theorem dX3_nextStep_13 : decode cX3_nextStep 13 = .ok (.iconst (-1), 1) := by decide +kernel
theorem dX3_nextStep_14 : decode cX3_nextStep 14 = .ok (.goto 8, 3) := by decide +kernel
theorem dX3_nextStep_17 : decode cX3_nextStep 17 = .ok (.iload_n 1, 1) := by decide +kernel
theorem dX3_nextStep_18 : decode cX3_nextStep 18 = .ok (.iload_n 2, 1) := by decide +kernel
theorem dX3_nextStep_19 : decode cX3_nextStep 19 = .ok (.iadd, 1) := by decide +kernel
theorem dX3_nextStep_20 : decode cX3_nextStep 20 = .ok (.iconst 1, 1) := by decide +kernel
theorem dX3_nextStep_21 : decode cX3_nextStep 21 = .ok (.iadd, 1) := by decide +kernel
theorem dX3_nextStep_22 : decode cX3_nextStep 22 = .ok (.ireturn, 1) := by decide +kernel
theorem dX3_stepFor_0 : decode cX3_stepFor 0 = .ok (.aload_n 0, 1) := by decide +kernel
theorem dX3_stepFor_1 : decode cX3_stepFor 1 = .ok (.iload_n 1, 1) := by decide +kernel
theorem dX3_stepFor_2 : decode cX3_stepFor 2 = .ok (.invokevirtual 86, 3) := by decide +kernel
theorem dX3_stepFor_5 : decode cX3_stepFor 5 = .ok (.istore_n 3, 1) := by decide +kernel
theorem dX3_stepFor_6 : decode cX3_stepFor 6 = .ok (.iconst 0, 1) := by decide +kernel
theorem dX3_stepFor_7 : decode cX3_stepFor 7 = .ok (.istore 4, 2) := by decide +kernel
theorem dX3_stepFor_9 : decode cX3_stepFor 9 = .ok (.iload 4, 2) := by decide +kernel
theorem dX3_stepFor_11 : decode cX3_stepFor 11 = .ok (.aload_n 0, 1) := by decide +kernel
theorem dX3_stepFor_12 : decode cX3_stepFor 12 = .ok (.bipush 6, 2) := by decide +kernel
theorem dX3_stepFor_14 : decode cX3_stepFor 14 = .ok (.invokevirtual 76, 3) := by decide +kernel
theorem dX3_stepFor_17 : decode cX3_stepFor 17 = .ok (.if_icmp .ge 39, 3) := by decide +kernel
theorem dX3_stepFor_20 : decode cX3_stepFor 20 = .ok (.iload_n 3, 1) := by decide +kernel
theorem dX3_stepFor_21 : decode cX3_stepFor 21 = .ok (.iconst (-1), 1) := by decide +kernel
theorem dX3_stepFor_22 : decode cX3_stepFor 22 = .ok (.if_icmp .eq 34, 3) := by decide +kernel
theorem dX3_stepFor_25 : decode cX3_stepFor 25 = .ok (.aload_n 0, 1) := by decide +kernel
theorem dX3_stepFor_26 : decode cX3_stepFor 26 = .ok (.iload_n 3, 1) := by decide +kernel
theorem dX3_stepFor_27 : decode cX3_stepFor 27 = .ok (.invokevirtual 79, 3) := by decide +kernel
theorem dX3_stepFor_30 : decode cX3_stepFor 30 = .ok (.ifCond .ne 14, 3) := by decide +kernel
theorem dX3_stepFor_33 : decode cX3_stepFor 33 = .ok (.aload_n 0, 1) := by decide +kernel
theorem dX3_stepFor_34 : decode cX3_stepFor 34 = .ok (.iload_n 3, 1) := by decide +kernel
theorem dX3_stepFor_35 : decode cX3_stepFor 35 = .ok (.invokevirtual 73, 3) := by decide +kernel
theorem dX3_stepFor_38 : decode cX3_stepFor 38 = .ok (.iload_n 2, 1) := by decide +kernel
theorem dX3_stepFor_39 : decode cX3_stepFor 39 = .ok (.if_icmp .ne 5, 3) := by decide +kernel
theorem dX3_stepFor_42 : decode cX3_stepFor 42 = .ok (.iload_n 3, 1) := by decide +kernel
theorem dX3_stepFor_43 : decode cX3_stepFor 43 = .ok (.ireturn, 1) := by decide +kernel
theorem dX3_stepFor_44 : decode cX3_stepFor 44 = .ok (.aload_n 0, 1) := by decide +kernel
theorem dX3_stepFor_45 : decode cX3_stepFor 45 = .ok (.iload_n 3, 1) := by decide +kernel
theorem dX3_stepFor_46 : decode cX3_stepFor 46 = .ok (.invokevirtual 89, 3) := by decide +kernel
theorem dX3_stepFor_49 : decode cX3_stepFor 49 = .ok (.istore_n 3, 1) := by decide +kernel
theorem dX3_stepFor_50 : decode cX3_stepFor 50 = .ok (.iinc 4 1, 3) := by decide +kernel
theorem dX3_stepFor_53 : decode cX3_stepFor 53 = .ok (.goto (-44), 3) := by decide +kernel
theorem dX3_stepFor_56 : decode cX3_stepFor 56 = .ok (.iconst (-1), 1) := by decide +kernel
theorem dX3_stepFor_57 : decode cX3_stepFor 57 = .ok (.ireturn, 1) := by decide +kernel
theorem dX3_tally_0 : decode cX3_tally 0 = .ok (.iload_n 1, 1) := by decide +kernel
theorem dX3_tally_1 : decode cX3_tally 1 = .ok (.tableswitch 43 2 4 #[27, 33, 38], 27) := by decide +kernel
theorem dX3_tally_28 : decode cX3_tally 28 = .ok (.aload_n 0, 1) := by decide +kernel
theorem dX3_tally_29 : decode cX3_tally 29 = .ok (.getfield 30, 3) := by decide +kernel
theorem dX3_tally_32 : decode cX3_tally 32 = .ok (.arraylength, 1) := by decide +kernel
theorem dX3_tally_33 : decode cX3_tally 33 = .ok (.ireturn, 1) := by decide +kernel
theorem dX3_tally_34 : decode cX3_tally 34 = .ok (.aload_n 0, 1) := by decide +kernel
theorem dX3_tally_35 : decode cX3_tally 35 = .ok (.invokevirtual 92, 3) := by decide +kernel
theorem dX3_tally_38 : decode cX3_tally 38 = .ok (.ireturn, 1) := by decide +kernel
theorem dX3_tally_39 : decode cX3_tally 39 = .ok (.aload_n 0, 1) := by decide +kernel
theorem dX3_tally_40 : decode cX3_tally 40 = .ok (.getfield 21, 3) := by decide +kernel
theorem dX3_tally_43 : decode cX3_tally 43 = .ok (.ireturn, 1) := by decide +kernel
theorem dX3_tally_44 : decode cX3_tally 44 = .ok (.aload_n 0, 1) := by decide +kernel
theorem dX3_tally_45 : decode cX3_tally 45 = .ok (.invokevirtual 95, 3) := by decide +kernel
theorem dX3_tally_48 : decode cX3_tally 48 = .ok (.ireturn, 1) := by decide +kernel
theorem dX3_characterCount_0 : decode cX3_characterCount 0 = .ok (.iconst 0, 1) := by decide +kernel
theorem dX3_characterCount_1 : decode cX3_characterCount 1 = .ok (.istore_n 1, 1) := by decide +kernel
theorem dX3_characterCount_2 : decode cX3_characterCount 2 = .ok (.iconst 0, 1) := by decide +kernel
theorem dX3_characterCount_3 : decode cX3_characterCount 3 = .ok (.istore_n 2, 1) := by decide +kernel
theorem dX3_characterCount_4 : decode cX3_characterCount 4 = .ok (.iload_n 2, 1) := by decide +kernel
theorem dX3_characterCount_5 : decode cX3_characterCount 5 = .ok (.sipush 256, 3) := by decide +kernel
theorem dX3_characterCount_8 : decode cX3_characterCount 8 = .ok (.if_icmp .ge 21, 3) := by decide +kernel
theorem dX3_characterCount_11 : decode cX3_characterCount 11 = .ok (.aload_n 0, 1) := by decide +kernel
theorem dX3_characterCount_12 : decode cX3_characterCount 12 = .ok (.getfield 18, 3) := by decide +kernel
theorem dX3_characterCount_15 : decode cX3_characterCount 15 = .ok (.iload_n 2, 1) := by decide +kernel
theorem dX3_characterCount_16 : decode cX3_characterCount 16 = .ok (.iaload, 1) := by decide +kernel
theorem dX3_characterCount_17 : decode cX3_characterCount 17 = .ok (.ifCond .eq 6, 3) := by decide +kernel
theorem dX3_characterCount_20 : decode cX3_characterCount 20 = .ok (.iinc 1 1, 3) := by decide +kernel
theorem dX3_characterCount_23 : decode cX3_characterCount 23 = .ok (.iinc 2 1, 3) := by decide +kernel
theorem dX3_characterCount_26 : decode cX3_characterCount 26 = .ok (.goto (-22), 3) := by decide +kernel
theorem dX3_characterCount_29 : decode cX3_characterCount 29 = .ok (.iload_n 1, 1) := by decide +kernel
theorem dX3_characterCount_30 : decode cX3_characterCount 30 = .ok (.ireturn, 1) := by decide +kernel
theorem dX4_init_0 : decode cX4_init 0 = .ok (.aload_n 0, 1) := by decide +kernel
theorem dX4_init_1 : decode cX4_init 1 = .ok (.invokespecial 3, 3) := by decide +kernel
theorem dX4_init_4 : decode cX4_init 4 = .ok (.aload_n 0, 1) := by decide +kernel
theorem dX4_init_5 : decode cX4_init 5 = .ok (.sipush 1000, 3) := by decide +kernel
theorem dX4_init_8 : decode cX4_init 8 = .ok (.newarray .int, 2) := by decide +kernel
theorem dX4_init_10 : decode cX4_init 10 = .ok (.putfield 11, 3) := by decide +kernel
theorem dX4_init_13 : decode cX4_init 13 = .ok (.aload_n 0, 1) := by decide +kernel
theorem dX4_init_14 : decode cX4_init 14 = .ok (.sipush 1000, 3) := by decide +kernel
theorem dX4_init_17 : decode cX4_init 17 = .ok (.newarray .int, 2) := by decide +kernel
theorem dX4_init_19 : decode cX4_init 19 = .ok (.putfield 15, 3) := by decide +kernel
theorem dX4_init_22 : decode cX4_init 22 = .ok (.aload_n 0, 1) := by decide +kernel
theorem dX4_init_23 : decode cX4_init 23 = .ok (.iconst 0, 1) := by decide +kernel
theorem dX4_init_24 : decode cX4_init 24 = .ok (.putfield 18, 3) := by decide +kernel
theorem dX4_init_27 : decode cX4_init 27 = .ok (.aload_n 0, 1) := by decide +kernel
theorem dX4_init_28 : decode cX4_init 28 = .ok (.lconst 0, 1) := by decide +kernel
theorem dX4_init_29 : decode cX4_init 29 = .ok (.putfield 22, 3) := by decide +kernel
theorem dX4_init_32 : decode cX4_init 32 = .ok (.aload_n 0, 1) := by decide +kernel
theorem dX4_init_33 : decode cX4_init 33 = .ok (.iconst 3, 1) := by decide +kernel
theorem dX4_init_34 : decode cX4_init 34 = .ok (.putfield 26, 3) := by decide +kernel
theorem dX4_init_37 : decode cX4_init 37 = .ok (.aload_n 0, 1) := by decide +kernel
theorem dX4_init_38 : decode cX4_init 38 = .ok (.sipush 256, 3) := by decide +kernel
theorem dX4_init_41 : decode cX4_init 41 = .ok (.putfield 31, 3) := by decide +kernel
theorem dX4_init_44 : decode cX4_init 44 = .ok (.aload_n 0, 1) := by decide +kernel
theorem dX4_init_45 : decode cX4_init 45 = .ok (.sipush 1000, 3) := by decide +kernel
theorem dX4_init_48 : decode cX4_init 48 = .ok (.newarray .int, 2) := by decide +kernel
theorem dX4_init_50 : decode cX4_init 50 = .ok (.putfield 34, 3) := by decide +kernel
theorem dX4_init_53 : decode cX4_init 53 = .ok (.aload_n 0, 1) := by decide +kernel
theorem dX4_init_54 : decode cX4_init 54 = .ok (.sipush 1000, 3) := by decide +kernel
theorem dX4_init_57 : decode cX4_init 57 = .ok (.newarray .int, 2) := by decide +kernel
theorem dX4_init_59 : decode cX4_init 59 = .ok (.putfield 37, 3) := by decide +kernel
theorem dX4_init_62 : decode cX4_init 62 = .ok (.aload_n 0, 1) := by decide +kernel
theorem dX4_init_63 : decode cX4_init 63 = .ok (.iconst 0, 1) := by decide +kernel
theorem dX4_init_64 : decode cX4_init 64 = .ok (.putfield 40, 3) := by decide +kernel
theorem dX4_init_67 : decode cX4_init 67 = .ok (.aload_n 0, 1) := by decide +kernel
theorem dX4_init_68 : decode cX4_init 68 = .ok (.iconst 0, 1) := by decide +kernel
theorem dX4_init_69 : decode cX4_init 69 = .ok (.putfield 43, 3) := by decide +kernel
theorem dX4_init_72 : decode cX4_init 72 = .ok (.return_, 1) := by decide +kernel
theorem dX4_forget_0 : decode cX4_forget 0 = .ok (.aload_n 0, 1) := by decide +kernel
theorem dX4_forget_1 : decode cX4_forget 1 = .ok (.iconst 0, 1) := by decide +kernel
theorem dX4_forget_2 : decode cX4_forget 2 = .ok (.putfield 18, 3) := by decide +kernel
theorem dX4_forget_5 : decode cX4_forget 5 = .ok (.aload_n 0, 1) := by decide +kernel
theorem dX4_forget_6 : decode cX4_forget 6 = .ok (.lconst 0, 1) := by decide +kernel
theorem dX4_forget_7 : decode cX4_forget 7 = .ok (.putfield 22, 3) := by decide +kernel
theorem dX4_forget_10 : decode cX4_forget 10 = .ok (.return_, 1) := by decide +kernel
theorem dX4_begin_0 : decode cX4_begin 0 = .ok (.aload_n 0, 1) := by decide +kernel
theorem dX4_begin_1 : decode cX4_begin 1 = .ok (.invokevirtual 46, 3) := by decide +kernel
theorem dX4_begin_4 : decode cX4_begin 4 = .ok (.aload_n 2, 1) := by decide +kernel
theorem dX4_begin_5 : decode cX4_begin 5 = .ok (.invokevirtual 49, 3) := by decide +kernel
theorem dX4_begin_8 : decode cX4_begin 8 = .ok (.sipush 200, 3) := by decide +kernel
theorem dX4_begin_11 : decode cX4_begin 11 = .ok (.if_icmp .le 5, 3) := by decide +kernel
theorem dX4_begin_14 : decode cX4_begin 14 = .ok (.iconst 0, 1) := by decide +kernel
theorem dX4_begin_15 : decode cX4_begin 15 = .ok (.ireturn, 1) := by decide +kernel
theorem dX4_begin_16 : decode cX4_begin 16 = .ok (.aload_n 0, 1) := by decide +kernel
theorem dX4_begin_17 : decode cX4_begin 17 = .ok (.iconst 0, 1) := by decide +kernel
theorem dX4_begin_18 : decode cX4_begin 18 = .ok (.putfield 40, 3) := by decide +kernel
theorem dX4_begin_21 : decode cX4_begin 21 = .ok (.aload_n 0, 1) := by decide +kernel
theorem dX4_begin_22 : decode cX4_begin 22 = .ok (.iconst 3, 1) := by decide +kernel
theorem dX4_begin_23 : decode cX4_begin 23 = .ok (.aload_n 1, 1) := by decide +kernel
theorem dX4_begin_24 : decode cX4_begin 24 = .ok (.invokevirtual 55, 3) := by decide +kernel
theorem dX4_begin_27 : decode cX4_begin 27 = .ok (.invokevirtual 58, 3) := by decide +kernel
theorem dX4_begin_30 : decode cX4_begin 30 = .ok (.aload_n 2, 1) := by decide +kernel
theorem dX4_begin_31 : decode cX4_begin 31 = .ok (.invokevirtual 49, 3) := by decide +kernel
theorem dX4_begin_34 : decode cX4_begin 34 = .ok (.iconst 1, 1) := by decide +kernel
theorem dX4_begin_35 : decode cX4_begin 35 = .ok (.isub, 1) := by decide +kernel
theorem dX4_begin_36 : decode cX4_begin 36 = .ok (.istore_n 3, 1) := by decide +kernel
theorem dX4_begin_37 : decode cX4_begin 37 = .ok (.iload_n 3, 1) := by decide +kernel
theorem dX4_begin_38 : decode cX4_begin 38 = .ok (.ifCond .lt 33, 3) := by decide +kernel
theorem dX4_begin_41 : decode cX4_begin 41 = .ok (.aload_n 1, 1) := by decide +kernel
theorem dX4_begin_42 : decode cX4_begin 42 = .ok (.aload_n 2, 1) := by decide +kernel
theorem dX4_begin_43 : decode cX4_begin 43 = .ok (.iload_n 3, 1) := by decide +kernel
theorem dX4_begin_44 : decode cX4_begin 44 = .ok (.invokevirtual 62, 3) := by decide +kernel
theorem dX4_begin_47 : decode cX4_begin 47 = .ok (.invokevirtual 66, 3) := by decide +kernel
theorem dX4_begin_50 : decode cX4_begin 50 = .ok (.ifCond .ne 5, 3) := by decide +kernel
theorem dX4_begin_53 : decode cX4_begin 53 = .ok (.iconst 0, 1) := by decide +kernel
theorem dX4_begin_54 : decode cX4_begin 54 = .ok (.ireturn, 1) := by decide +kernel
theorem dX4_begin_55 : decode cX4_begin 55 = .ok (.aload_n 0, 1) := by decide +kernel
theorem dX4_begin_56 : decode cX4_begin 56 = .ok (.iconst 0, 1) := by decide +kernel
theorem dX4_begin_57 : decode cX4_begin 57 = .ok (.aload_n 2, 1) := by decide +kernel
theorem dX4_begin_58 : decode cX4_begin 58 = .ok (.iload_n 3, 1) := by decide +kernel
theorem dX4_begin_59 : decode cX4_begin 59 = .ok (.invokevirtual 62, 3) := by decide +kernel
theorem dX4_begin_62 : decode cX4_begin 62 = .ok (.invokevirtual 58, 3) := by decide +kernel
theorem dX4_begin_65 : decode cX4_begin 65 = .ok (.iinc 3 (-1), 3) := by decide +kernel
theorem dX4_begin_68 : decode cX4_begin 68 = .ok (.goto (-31), 3) := by decide +kernel
theorem dX4_begin_71 : decode cX4_begin 71 = .ok (.aload_n 0, 1) := by decide +kernel
theorem dX4_begin_72 : decode cX4_begin 72 = .ok (.iconst 3, 1) := by decide +kernel
theorem dX4_begin_73 : decode cX4_begin 73 = .ok (.putfield 26, 3) := by decide +kernel
theorem dX4_begin_76 : decode cX4_begin 76 = .ok (.aload_n 0, 1) := by decide +kernel
theorem dX4_begin_77 : decode cX4_begin 77 = .ok (.sipush 256, 3) := by decide +kernel
theorem dX4_begin_80 : decode cX4_begin 80 = .ok (.putfield 31, 3) := by decide +kernel
theorem dX4_begin_83 : decode cX4_begin 83 = .ok (.aload_n 0, 1) := by decide +kernel
theorem dX4_begin_84 : decode cX4_begin 84 = .ok (.aload_n 2, 1) := by decide +kernel
theorem dX4_begin_85 : decode cX4_begin 85 = .ok (.invokevirtual 49, 3) := by decide +kernel
theorem dX4_begin_88 : decode cX4_begin 88 = .ok (.iconst 2, 1) := by decide +kernel
theorem dX4_begin_89 : decode cX4_begin 89 = .ok (.iadd, 1) := by decide +kernel
theorem dX4_begin_90 : decode cX4_begin 90 = .ok (.putfield 43, 3) := by decide +kernel
theorem dX4_begin_93 : decode cX4_begin 93 = .ok (.iconst 1, 1) := by decide +kernel
theorem dX4_begin_94 : decode cX4_begin 94 = .ok (.ireturn, 1) := by decide +kernel
theorem dX4_run_0 : decode cX4_run 0 = .ok (.iconst 0, 1) := by decide +kernel
theorem dX4_run_1 : decode cX4_run 1 = .ok (.istore_n 2, 1) := by decide +kernel
theorem dX4_run_2 : decode cX4_run 2 = .ok (.iload_n 2, 1) := by decide +kernel
theorem dX4_run_3 : decode cX4_run 3 = .ok (.sipush 10000, 3) := by decide +kernel
theorem dX4_run_6 : decode cX4_run 6 = .ok (.if_icmp .ge 85, 3) := by decide +kernel
theorem dX4_run_9 : decode cX4_run 9 = .ok (.aload_n 0, 1) := by decide +kernel
theorem dX4_run_10 : decode cX4_run 10 = .ok (.getfield 40, 3) := by decide +kernel
theorem dX4_run_13 : decode cX4_run 13 = .ok (.ifCond .le 78, 3) := by decide +kernel
theorem dX4_run_16 : decode cX4_run 16 = .ok (.aload_n 0, 1) := by decide +kernel
theorem dX4_run_17 : decode cX4_run 17 = .ok (.getfield 43, 3) := by decide +kernel
theorem dX4_run_20 : decode cX4_run 20 = .ok (.sipush 1000, 3) := by decide +kernel
theorem dX4_run_23 : decode cX4_run 23 = .ok (.if_icmp .gt 68, 3) := by decide +kernel
theorem dX4_run_26 : decode cX4_run 26 = .ok (.aload_n 1, 1) := by decide +kernel
theorem dX4_run_27 : decode cX4_run 27 = .ok (.aload_n 0, 1) := by decide +kernel
theorem dX4_run_28 : decode cX4_run 28 = .ok (.getfield 31, 3) := by decide +kernel
theorem dX4_run_31 : decode cX4_run 31 = .ok (.aload_n 0, 1) := by decide +kernel
theorem dX4_run_32 : decode cX4_run 32 = .ok (.invokevirtual 70, 3) := by decide +kernel
theorem dX4_run_35 : decode cX4_run 35 = .ok (.invokevirtual 73, 3) := by decide +kernel
theorem dX4_run_38 : decode cX4_run 38 = .ok (.istore_n 3, 1) := by decide +kernel
theorem dX4_run_39 : decode cX4_run 39 = .ok (.iload_n 3, 1) := by decide +kernel
theorem dX4_run_40 : decode cX4_run 40 = .ok (.iconst (-1), 1) := by decide +kernel
theorem dX4_run_41 : decode cX4_run 41 = .ok (.if_icmp .ne 10, 3) := by decide +kernel
theorem dX4_run_44 : decode cX4_run 44 = .ok (.aload_n 0, 1) := by decide +kernel
theorem dX4_run_45 : decode cX4_run 45 = .ok (.invokevirtual 77, 3) := by decide +kernel
theorem dX4_run_48 : decode cX4_run 48 = .ok (.goto 37, 3) := by decide +kernel
theorem dX4_run_51 : decode cX4_run 51 = .ok (.aload_n 1, 1) := by decide +kernel
theorem dX4_run_52 : decode cX4_run 52 = .ok (.iload_n 3, 1) := by decide +kernel
theorem dX4_run_53 : decode cX4_run 53 = .ok (.invokevirtual 80, 3) := by decide +kernel
theorem dX4_run_56 : decode cX4_run 56 = .ok (.ifCond .eq 15, 3) := by decide +kernel
theorem dX4_run_59 : decode cX4_run 59 = .ok (.aload_n 0, 1) := by decide +kernel
theorem dX4_run_60 : decode cX4_run 60 = .ok (.aload_n 1, 1) := by decide +kernel
theorem dX4_run_61 : decode cX4_run 61 = .ok (.iload_n 3, 1) := by decide +kernel
theorem dX4_run_62 : decode cX4_run 62 = .ok (.invokevirtual 83, 3) := by decide +kernel
theorem dX4_run_65 : decode cX4_run 65 = .ok (.invokevirtual 86, 3) := by decide +kernel
theorem dX4_run_68 : decode cX4_run 68 = .ok (.goto 17, 3) := by decide +kernel
theorem dX4_run_71 : decode cX4_run 71 = .ok (.aload_n 0, 1) := by decide +kernel
theorem dX4_run_72 : decode cX4_run 72 = .ok (.aload_n 1, 1) := by decide +kernel
theorem dX4_run_73 : decode cX4_run 73 = .ok (.iload_n 3, 1) := by decide +kernel
theorem dX4_run_74 : decode cX4_run 74 = .ok (.invokevirtual 90, 3) := by decide +kernel
theorem dX4_run_77 : decode cX4_run 77 = .ok (.aload_n 1, 1) := by decide +kernel
theorem dX4_run_78 : decode cX4_run 78 = .ok (.iload_n 3, 1) := by decide +kernel
theorem dX4_run_79 : decode cX4_run 79 = .ok (.invokevirtual 93, 3) := by decide +kernel
theorem dX4_run_82 : decode cX4_run 82 = .ok (.invokevirtual 96, 3) := by decide +kernel
theorem dX4_run_85 : decode cX4_run 85 = .ok (.iinc 2 1, 3) := by decide +kernel
theorem dX4_run_88 : decode cX4_run 88 = .ok (.goto (-86), 3) := by decide +kernel
theorem dX4_run_91 : decode cX4_run 91 = .ok (.aload_n 0, 1) := by decide +kernel
theorem dX4_run_92 : decode cX4_run 92 = .ok (.getfield 40, 3) := by decide +kernel
theorem dX4_run_95 : decode cX4_run 95 = .ok (.ifCond .gt 13, 3) := by decide +kernel
theorem dX4_run_98 : decode cX4_run 98 = .ok (.aload_n 0, 1) := by decide +kernel
theorem dX4_run_99 : decode cX4_run 99 = .ok (.getfield 43, 3) := by decide +kernel
theorem dX4_run_102 : decode cX4_run 102 = .ok (.sipush 1000, 3) := by decide +kernel
theorem dX4_run_105 : decode cX4_run 105 = .ok (.if_icmp .le 5, 3) := by decide +kernel
theorem dX4_run_108 : decode cX4_run 108 = .ok (.iconst 0, 1) := by decide +kernel
theorem dX4_run_109 : decode cX4_run 109 = .ok (.ireturn, 1) := by decide +kernel
theorem dX4_run_110 : decode cX4_run 110 = .ok (.aload_n 0, 1) := by decide +kernel
theorem dX4_run_111 : decode cX4_run 111 = .ok (.invokevirtual 99, 3) := by decide +kernel
theorem dX4_run_114 : decode cX4_run 114 = .ok (.aload_n 0, 1) := by decide +kernel
theorem dX4_run_115 : decode cX4_run 115 = .ok (.aload_n 1, 1) := by decide +kernel
theorem dX4_run_116 : decode cX4_run 116 = .ok (.invokevirtual 102, 3) := by decide +kernel
