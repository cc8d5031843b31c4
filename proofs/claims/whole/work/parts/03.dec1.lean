theorem dX0_init_0 : decode cX0_init 0 = .ok (.aload_n 0, 1) := by decide +kernel
theorem dX0_init_1 : decode cX0_init 1 = .ok (.invokespecial 1, 3) := by decide +kernel
theorem dX0_init_4 : decode cX0_init 4 = .ok (.aload_n 0, 1) := by decide +kernel
theorem dX0_init_5 : decode cX0_init 5 = .ok (.bipush 64, 2) := by decide +kernel
theorem dX0_init_7 : decode cX0_init 7 = .ok (.newarray .byte, 2) := by decide +kernel
theorem dX0_init_9 : decode cX0_init 9 = .ok (.putfield 7, 3) := by decide +kernel
theorem dX0_init_12 : decode cX0_init 12 = .ok (.aload_n 0, 1) := by decide +kernel
theorem dX0_init_13 : decode cX0_init 13 = .ok (.iconst 0, 1) := by decide +kernel
theorem dX0_init_14 : decode cX0_init 14 = .ok (.putfield 13, 3) := by decide +kernel
theorem dX0_init_17 : decode cX0_init 17 = .ok (.return_, 1) := by decide +kernel
theorem dX0_append_0 : decode cX0_append 0 = .ok (.iload_n 3, 1) := by decide +kernel
theorem dX0_append_1 : decode cX0_append 1 = .ok (.iconst 1, 1) := by decide +kernel
theorem dX0_append_2 : decode cX0_append 2 = .ok (.if_icmp .lt 20, 3) := by decide +kernel
theorem dX0_append_5 : decode cX0_append 5 = .ok (.iload_n 3, 1) := by decide +kernel
theorem dX0_append_6 : decode cX0_append 6 = .ok (.bipush 8, 2) := by decide +kernel
theorem dX0_append_8 : decode cX0_append 8 = .ok (.if_icmp .gt 14, 3) := by decide +kernel
theorem dX0_append_11 : decode cX0_append 11 = .ok (.iload_n 3, 1) := by decide +kernel
theorem dX0_append_12 : decode cX0_append 12 = .ok (.ldc 17, 2) := by decide +kernel
theorem dX0_append_14 : decode cX0_append 14 = .ok (.aload_n 0, 1) := by decide +kernel
theorem dX0_append_15 : decode cX0_append 15 = .ok (.getfield 13, 3) := by decide +kernel
theorem dX0_append_18 : decode cX0_append 18 = .ok (.isub, 1) := by decide +kernel
theorem dX0_append_19 : decode cX0_append 19 = .ok (.if_icmp .le 5, 3) := by decide +kernel
theorem dX0_append_22 : decode cX0_append 22 = .ok (.iconst 0, 1) := by decide +kernel
theorem dX0_append_23 : decode cX0_append 23 = .ok (.ireturn, 1) := by decide +kernel
theorem dX0_append_24 : decode cX0_append 24 = .ok (.aload_n 0, 1) := by decide +kernel
theorem dX0_append_25 : decode cX0_append 25 = .ok (.aload_n 0, 1) := by decide +kernel
theorem dX0_append_26 : decode cX0_append 26 = .ok (.getfield 13, 3) := by decide +kernel
theorem dX0_append_29 : decode cX0_append 29 = .ok (.iload_n 3, 1) := by decide +kernel
theorem dX0_append_30 : decode cX0_append 30 = .ok (.iadd, 1) := by decide +kernel
theorem dX0_append_31 : decode cX0_append 31 = .ok (.invokevirtual 18, 3) := by decide +kernel
theorem dX0_append_34 : decode cX0_append 34 = .ok (.bipush 8, 2) := by decide +kernel
theorem dX0_append_36 : decode cX0_append 36 = .ok (.iload_n 3, 1) := by decide +kernel
theorem dX0_append_37 : decode cX0_append 37 = .ok (.iconst 1, 1) := by decide +kernel
theorem dX0_append_38 : decode cX0_append 38 = .ok (.isub, 1) := by decide +kernel
theorem dX0_append_39 : decode cX0_append 39 = .ok (.imul, 1) := by decide +kernel
theorem dX0_append_40 : decode cX0_append 40 = .ok (.istore 4, 2) := by decide +kernel
theorem dX0_append_42 : decode cX0_append 42 = .ok (.iload 4, 2) := by decide +kernel
theorem dX0_append_44 : decode cX0_append 44 = .ok (.ifCond .lt 46, 3) := by decide +kernel
theorem dX0_append_47 : decode cX0_append 47 = .ok (.aload_n 0, 1) := by decide +kernel
theorem dX0_append_48 : decode cX0_append 48 = .ok (.getfield 13, 3) := by decide +kernel
theorem dX0_append_51 : decode cX0_append 51 = .ok (.aload_n 0, 1) := by decide +kernel
theorem dX0_append_52 : decode cX0_append 52 = .ok (.getfield 7, 3) := by decide +kernel
theorem dX0_append_55 : decode cX0_append 55 = .ok (.arraylength, 1) := by decide +kernel
theorem dX0_append_56 : decode cX0_append 56 = .ok (.if_icmp .ge 34, 3) := by decide +kernel
theorem dX0_append_59 : decode cX0_append 59 = .ok (.aload_n 0, 1) := by decide +kernel
theorem dX0_append_60 : decode cX0_append 60 = .ok (.getfield 7, 3) := by decide +kernel
theorem dX0_append_63 : decode cX0_append 63 = .ok (.aload_n 0, 1) := by decide +kernel
theorem dX0_append_64 : decode cX0_append 64 = .ok (.getfield 13, 3) := by decide +kernel
theorem dX0_append_67 : decode cX0_append 67 = .ok (.lload_n 1, 1) := by decide +kernel
theorem dX0_append_68 : decode cX0_append 68 = .ok (.iload 4, 2) := by decide +kernel
theorem dX0_append_70 : decode cX0_append 70 = .ok (.lshr, 1) := by decide +kernel
theorem dX0_append_71 : decode cX0_append 71 = .ok (.l2i, 1) := by decide +kernel
theorem dX0_append_72 : decode cX0_append 72 = .ok (.i2b, 1) := by decide +kernel
theorem dX0_append_73 : decode cX0_append 73 = .ok (.bastore, 1) := by decide +kernel
theorem dX0_append_74 : decode cX0_append 74 = .ok (.aload_n 0, 1) := by decide +kernel
theorem dX0_append_75 : decode cX0_append 75 = .ok (.dup, 1) := by decide +kernel
theorem dX0_append_76 : decode cX0_append 76 = .ok (.getfield 13, 3) := by decide +kernel
theorem dX0_append_79 : decode cX0_append 79 = .ok (.iconst 1, 1) := by decide +kernel
theorem dX0_append_80 : decode cX0_append 80 = .ok (.iadd, 1) := by decide +kernel
theorem dX0_append_81 : decode cX0_append 81 = .ok (.putfield 13, 3) := by decide +kernel
theorem dX0_append_84 : decode cX0_append 84 = .ok (.iinc 4 (-8), 3) := by decide +kernel
theorem dX0_append_87 : decode cX0_append 87 = .ok (.goto (-45), 3) := by decide +kernel
theorem dX0_append_90 : decode cX0_append 90 = .ok (.iconst 1, 1) := by decide +kernel
theorem dX0_append_91 : decode cX0_append 91 = .ok (.ireturn, 1) := by decide +kernel
theorem dX0_makeRoom_0 : decode cX0_makeRoom 0 = .ok (.iload_n 1, 1) := by decide +kernel
theorem dX0_makeRoom_1 : decode cX0_makeRoom 1 = .ok (.aload_n 0, 1) := by decide +kernel
theorem dX0_makeRoom_2 : decode cX0_makeRoom 2 = .ok (.getfield 7, 3) := by decide +kernel
theorem dX0_makeRoom_5 : decode cX0_makeRoom 5 = .ok (.arraylength, 1) := by decide +kernel
theorem dX0_makeRoom_6 : decode cX0_makeRoom 6 = .ok (.if_icmp .le 30, 3) := by decide +kernel
theorem dX0_makeRoom_9 : decode cX0_makeRoom 9 = .ok (.aload_n 0, 1) := by decide +kernel
theorem dX0_makeRoom_10 : decode cX0_makeRoom 10 = .ok (.aload_n 0, 1) := by decide +kernel
theorem dX0_makeRoom_11 : decode cX0_makeRoom 11 = .ok (.getfield 7, 3) := by decide +kernel
theorem dX0_makeRoom_14 : decode cX0_makeRoom 14 = .ok (.ldc 17, 2) := by decide +kernel
theorem dX0_makeRoom_16 : decode cX0_makeRoom 16 = .ok (.iload_n 1, 1) := by decide +kernel
theorem dX0_makeRoom_17 : decode cX0_makeRoom 17 = .ok (.iconst 2, 1) := by decide +kernel
theorem dX0_makeRoom_18 : decode cX0_makeRoom 18 = .ok (.aload_n 0, 1) := by decide +kernel
theorem dX0_makeRoom_19 : decode cX0_makeRoom 19 = .ok (.getfield 7, 3) := by decide +kernel
theorem dX0_makeRoom_22 : decode cX0_makeRoom 22 = .ok (.arraylength, 1) := by decide +kernel
theorem dX0_makeRoom_23 : decode cX0_makeRoom 23 = .ok (.imul, 1) := by decide +kernel
theorem dX0_makeRoom_24 : decode cX0_makeRoom 24 = .ok (.invokestatic 22, 3) := by decide +kernel
theorem dX0_makeRoom_27 : decode cX0_makeRoom 27 = .ok (.invokestatic 28, 3) := by decide +kernel
theorem dX0_makeRoom_30 : decode cX0_makeRoom 30 = .ok (.invokestatic 31, 3) := by decide +kernel
theorem dX0_makeRoom_33 : decode cX0_makeRoom 33 = .ok (.putfield 7, 3) := by decide +kernel
theorem dX0_makeRoom_36 : decode cX0_makeRoom 36 = .ok (.return_, 1) := by decide +kernel
theorem dX0_clear_0 : decode cX0_clear 0 = .ok (.aload_n 0, 1) := by decide +kernel
theorem dX0_clear_1 : decode cX0_clear 1 = .ok (.iconst 0, 1) := by decide +kernel
theorem dX0_clear_2 : decode cX0_clear 2 = .ok (.putfield 13, 3) := by decide +kernel
theorem dX0_clear_5 : decode cX0_clear 5 = .ok (.return_, 1) := by decide +kernel
theorem dX0_size_0 : decode cX0_size 0 = .ok (.aload_n 0, 1) := by decide +kernel
theorem dX0_size_1 : decode cX0_size 1 = .ok (.getfield 13, 3) := by decide +kernel
theorem dX0_size_4 : decode cX0_size 4 = .ok (.ireturn, 1) := by decide +kernel
theorem dX0_byteAt_0 : decode cX0_byteAt 0 = .ok (.iload_n 1, 1) := by decide +kernel
theorem dX0_byteAt_1 : decode cX0_byteAt 1 = .ok (.ifCond .lt 33, 3) := by decide +kernel
theorem dX0_byteAt_4 : decode cX0_byteAt 4 = .ok (.iload_n 1, 1) := by decide +kernel
theorem dX0_byteAt_5 : decode cX0_byteAt 5 = .ok (.aload_n 0, 1) := by decide +kernel
theorem dX0_byteAt_6 : decode cX0_byteAt 6 = .ok (.getfield 13, 3) := by decide +kernel
theorem dX0_byteAt_9 : decode cX0_byteAt 9 = .ok (.if_icmp .ge 25, 3) := by decide +kernel
theorem dX0_byteAt_12 : decode cX0_byteAt 12 = .ok (.iload_n 1, 1) := by decide +kernel
theorem dX0_byteAt_13 : decode cX0_byteAt 13 = .ok (.aload_n 0, 1) := by decide +kernel
theorem dX0_byteAt_14 : decode cX0_byteAt 14 = .ok (.getfield 7, 3) := by decide +kernel
theorem dX0_byteAt_17 : decode cX0_byteAt 17 = .ok (.arraylength, 1) := by decide +kernel
theorem dX0_byteAt_18 : decode cX0_byteAt 18 = .ok (.if_icmp .ge 16, 3) := by decide +kernel
theorem dX0_byteAt_21 : decode cX0_byteAt 21 = .ok (.aload_n 0, 1) := by decide +kernel
theorem dX0_byteAt_22 : decode cX0_byteAt 22 = .ok (.getfield 7, 3) := by decide +kernel
theorem dX0_byteAt_25 : decode cX0_byteAt 25 = .ok (.iload_n 1, 1) := by decide +kernel
theorem dX0_byteAt_26 : decode cX0_byteAt 26 = .ok (.baload, 1) := by decide +kernel
theorem dX0_byteAt_27 : decode cX0_byteAt 27 = .ok (.sipush 255, 3) := by decide +kernel
theorem dX0_byteAt_30 : decode cX0_byteAt 30 = .ok (.iand, 1) := by decide +kernel
theorem dX0_byteAt_31 : decode cX0_byteAt 31 = .ok (.goto 4, 3) := by decide +kernel
theorem dX0_byteAt_34 : decode cX0_byteAt 34 = .ok (.iconst 0, 1) := by decide +kernel
theorem dX0_byteAt_35 : decode cX0_byteAt 35 = .ok (.ireturn, 1) := by decide +kernel
theorem dX0_halfAt_0 : decode cX0_halfAt 0 = .ok (.aload_n 0, 1) := by decide +kernel
theorem dX0_halfAt_1 : decode cX0_halfAt 1 = .ok (.iconst 2, 1) := by decide +kernel
theorem dX0_halfAt_2 : decode cX0_halfAt 2 = .ok (.iload_n 1, 1) := by decide +kernel
theorem dX0_halfAt_3 : decode cX0_halfAt 3 = .ok (.imul, 1) := by decide +kernel
theorem dX0_halfAt_4 : decode cX0_halfAt 4 = .ok (.invokevirtual 37, 3) := by decide +kernel
theorem dX0_halfAt_7 : decode cX0_halfAt 7 = .ok (.bipush 8, 2) := by decide +kernel
theorem dX0_halfAt_9 : decode cX0_halfAt 9 = .ok (.ishl, 1) := by decide +kernel
theorem dX0_halfAt_10 : decode cX0_halfAt 10 = .ok (.aload_n 0, 1) := by decide +kernel
theorem dX0_halfAt_11 : decode cX0_halfAt 11 = .ok (.iconst 2, 1) := by decide +kernel
theorem dX0_halfAt_12 : decode cX0_halfAt 12 = .ok (.iload_n 1, 1) := by decide +kernel
theorem dX0_halfAt_13 : decode cX0_halfAt 13 = .ok (.imul, 1) := by decide +kernel
theorem dX0_halfAt_14 : decode cX0_halfAt 14 = .ok (.iconst 1, 1) := by decide +kernel
theorem dX0_halfAt_15 : decode cX0_halfAt 15 = .ok (.iadd, 1) := by decide +kernel
theorem dX0_halfAt_16 : decode cX0_halfAt 16 = .ok (.invokevirtual 37, 3) := by decide +kernel
theorem dX0_halfAt_19 : decode cX0_halfAt 19 = .ok (.ior, 1) := by decide +kernel
theorem dX0_halfAt_20 : decode cX0_halfAt 20 = .ok (.ireturn, 1) := by decide +kernel
theorem dX0_wordAt_0 : decode cX0_wordAt 0 = .ok (.aload_n 0, 1) := by decide +kernel
theorem dX0_wordAt_1 : decode cX0_wordAt 1 = .ok (.iconst 2, 1) := by decide +kernel
theorem dX0_wordAt_2 : decode cX0_wordAt 2 = .ok (.iload_n 1, 1) := by decide +kernel
theorem dX0_wordAt_3 : decode cX0_wordAt 3 = .ok (.imul, 1) := by decide +kernel
theorem dX0_wordAt_4 : decode cX0_wordAt 4 = .ok (.invokevirtual 41, 3) := by decide +kernel
theorem dX0_wordAt_7 : decode cX0_wordAt 7 = .ok (.bipush 16, 2) := by decide +kernel
theorem dX0_wordAt_9 : decode cX0_wordAt 9 = .ok (.ishl, 1) := by decide +kernel
theorem dX0_wordAt_10 : decode cX0_wordAt 10 = .ok (.aload_n 0, 1) := by decide +kernel
theorem dX0_wordAt_11 : decode cX0_wordAt 11 = .ok (.iconst 2, 1) := by decide +kernel
theorem dX0_wordAt_12 : decode cX0_wordAt 12 = .ok (.iload_n 1, 1) := by decide +kernel
theorem dX0_wordAt_13 : decode cX0_wordAt 13 = .ok (.imul, 1) := by decide +kernel
theorem dX0_wordAt_14 : decode cX0_wordAt 14 = .ok (.iconst 1, 1) := by decide +kernel
theorem dX0_wordAt_15 : decode cX0_wordAt 15 = .ok (.iadd, 1) := by decide +kernel
theorem dX0_wordAt_16 : decode cX0_wordAt 16 = .ok (.invokevirtual 41, 3) := by decide +kernel
theorem dX0_wordAt_19 : decode cX0_wordAt 19 = .ok (.ior, 1) := by decide +kernel
theorem dX0_wordAt_20 : decode cX0_wordAt 20 = .ok (.ireturn, 1) := by decide +kernel
theorem dX1_init_0 : decode cX1_init 0 = .ok (.aload_n 0, 1) := by decide +kernel
theorem dX1_init_1 : decode cX1_init 1 = .ok (.invokespecial 5, 3) := by decide +kernel
theorem dX1_init_4 : decode cX1_init 4 = .ok (.aload_n 0, 1) := by decide +kernel
theorem dX1_init_5 : decode cX1_init 5 = .ok (.sipush 257, 3) := by decide +kernel
theorem dX1_init_8 : decode cX1_init 8 = .ok (.newarray .int, 2) := by decide +kernel
theorem dX1_init_10 : decode cX1_init 10 = .ok (.putfield 13, 3) := by decide +kernel
theorem dX1_init_13 : decode cX1_init 13 = .ok (.aload_n 0, 1) := by decide +kernel
theorem dX1_init_14 : decode cX1_init 14 = .ok (.sipush 257, 3) := by decide +kernel
theorem dX1_init_17 : decode cX1_init 17 = .ok (.newarray .int, 2) := by decide +kernel
theorem dX1_init_19 : decode cX1_init 19 = .ok (.putfield 17, 3) := by decide +kernel
theorem dX1_init_22 : decode cX1_init 22 = .ok (.aload_n 0, 1) := by decide +kernel
theorem dX1_init_23 : decode cX1_init 23 = .ok (.iconst 0, 1) := by decide +kernel
theorem dX1_init_24 : decode cX1_init 24 = .ok (.putfield 20, 3) := by decide +kernel
theorem dX1_init_27 : decode cX1_init 27 = .ok (.aload_n 0, 1) := by decide +kernel
theorem dX1_init_28 : decode cX1_init 28 = .ok (.iconst 0, 1) := by decide +kernel
theorem dX1_init_29 : decode cX1_init 29 = .ok (.newarray .int, 2) := by decide +kernel
theorem dX1_init_31 : decode cX1_init 31 = .ok (.putfield 24, 3) := by decide +kernel
theorem dX1_init_34 : decode cX1_init 34 = .ok (.aload_n 0, 1) := by decide +kernel
theorem dX1_init_35 : decode cX1_init 35 = .ok (.iconst 0, 1) := by decide +kernel
theorem dX1_init_36 : decode cX1_init 36 = .ok (.newarray .int, 2) := by decide +kernel
theorem dX1_init_38 : decode cX1_init 38 = .ok (.putfield 27, 3) := by decide +kernel
theorem dX1_init_41 : decode cX1_init 41 = .ok (.aload_n 0, 1) := by decide +kernel
theorem dX1_init_42 : decode cX1_init 42 = .ok (.iconst 0, 1) := by decide +kernel
theorem dX1_init_43 : decode cX1_init 43 = .ok (.newarray .int, 2) := by decide +kernel
theorem dX1_init_45 : decode cX1_init 45 = .ok (.putfield 30, 3) := by decide +kernel
theorem dX1_init_48 : decode cX1_init 48 = .ok (.return_, 1) := by decide +kernel
theorem dX1_allEnd_0 : decode cX1_allEnd 0 = .ok (.aload_n 0, 1) := by decide +kernel
theorem dX1_allEnd_1 : decode cX1_allEnd 1 = .ok (.aload_n 1, 1) := by decide +kernel
theorem dX1_allEnd_2 : decode cX1_allEnd 2 = .ok (.invokevirtual 33, 3) := by decide +kernel
theorem dX1_allEnd_5 : decode cX1_allEnd 5 = .ok (.aload_n 0, 1) := by decide +kernel
theorem dX1_allEnd_6 : decode cX1_allEnd 6 = .ok (.invokevirtual 37, 3) := by decide +kernel
theorem dX1_allEnd_9 : decode cX1_allEnd 9 = .ok (.iconst 0, 1) := by decide +kernel
theorem dX1_allEnd_10 : decode cX1_allEnd 10 = .ok (.istore_n 2, 1) := by decide +kernel
theorem dX1_allEnd_11 : decode cX1_allEnd 11 = .ok (.iload_n 2, 1) := by decide +kernel
theorem dX1_allEnd_12 : decode cX1_allEnd 12 = .ok (.aload_n 0, 1) := by decide +kernel
theorem dX1_allEnd_13 : decode cX1_allEnd 13 = .ok (.getfield 20, 3) := by decide +kernel
theorem dX1_allEnd_16 : decode cX1_allEnd 16 = .ok (.if_icmp .ge 22, 3) := by decide +kernel
theorem dX1_allEnd_19 : decode cX1_allEnd 19 = .ok (.iload_n 2, 1) := by decide +kernel
theorem dX1_allEnd_20 : decode cX1_allEnd 20 = .ok (.sipush 257, 3) := by decide +kernel
theorem dX1_allEnd_23 : decode cX1_allEnd 23 = .ok (.if_icmp .ge 15, 3) := by decide +kernel
theorem dX1_allEnd_26 : decode cX1_allEnd 26 = .ok (.aload_n 0, 1) := by decide +kernel
theorem dX1_allEnd_27 : decode cX1_allEnd 27 = .ok (.aload_n 1, 1) := by decide +kernel
theorem dX1_allEnd_28 : decode cX1_allEnd 28 = .ok (.iload_n 2, 1) := by decide +kernel
theorem dX1_allEnd_29 : decode cX1_allEnd 29 = .ok (.invokevirtual 40, 3) := by decide +kernel
theorem dX1_allEnd_32 : decode cX1_allEnd 32 = .ok (.iinc 2 1, 3) := by decide +kernel
theorem dX1_allEnd_35 : decode cX1_allEnd 35 = .ok (.goto (-24), 3) := by decide +kernel
theorem dX1_allEnd_38 : decode cX1_allEnd 38 = .ok (.iconst 0, 1) := by decide +kernel
theorem dX1_allEnd_39 : decode cX1_allEnd 39 = .ok (.istore_n 2, 1) := by decide +kernel
theorem dX1_allEnd_40 : decode cX1_allEnd 40 = .ok (.iload_n 2, 1) := by decide +kernel
theorem dX1_allEnd_41 : decode cX1_allEnd 41 = .ok (.sipush 256, 3) := by decide +kernel
theorem dX1_allEnd_44 : decode cX1_allEnd 44 = .ok (.aload_n 0, 1) := by decide +kernel
theorem dX1_allEnd_45 : decode cX1_allEnd 45 = .ok (.getfield 20, 3) := by decide +kernel
theorem dX1_allEnd_48 : decode cX1_allEnd 48 = .ok (.imul, 1) := by decide +kernel
theorem dX1_allEnd_49 : decode cX1_allEnd 49 = .ok (.if_icmp .ge 46, 3) := by decide +kernel
theorem dX1_allEnd_52 : decode cX1_allEnd 52 = .ok (.iload_n 2, 1) := by decide +kernel
theorem dX1_allEnd_53 : decode cX1_allEnd 53 = .ok (.aload_n 0, 1) := by decide +kernel
theorem dX1_allEnd_54 : decode cX1_allEnd 54 = .ok (.getfield 24, 3) := by decide +kernel
theorem dX1_allEnd_57 : decode cX1_allEnd 57 = .ok (.arraylength, 1) := by decide +kernel
theorem dX1_allEnd_58 : decode cX1_allEnd 58 = .ok (.if_icmp .ge 37, 3) := by decide +kernel
theorem dX1_allEnd_61 : decode cX1_allEnd 61 = .ok (.aload_n 0, 1) := by decide +kernel
theorem dX1_allEnd_62 : decode cX1_allEnd 62 = .ok (.getfield 24, 3) := by decide +kernel
theorem dX1_allEnd_65 : decode cX1_allEnd 65 = .ok (.iload_n 2, 1) := by decide +kernel
theorem dX1_allEnd_66 : decode cX1_allEnd 66 = .ok (.iaload, 1) := by decide +kernel
theorem dX1_allEnd_67 : decode cX1_allEnd 67 = .ok (.ifCond .eq 22, 3) := by decide +kernel
theorem dX1_allEnd_70 : decode cX1_allEnd 70 = .ok (.aload_n 0, 1) := by decide +kernel
theorem dX1_allEnd_71 : decode cX1_allEnd 71 = .ok (.iload_n 2, 1) := by decide +kernel
theorem dX1_allEnd_72 : decode cX1_allEnd 72 = .ok (.invokevirtual 44, 3) := by decide +kernel
theorem dX1_allEnd_75 : decode cX1_allEnd 75 = .ok (.ifCond .ne 14, 3) := by decide +kernel
theorem dX1_allEnd_78 : decode cX1_allEnd 78 = .ok (.aload_n 0, 1) := by decide +kernel
theorem dX1_allEnd_79 : decode cX1_allEnd 79 = .ok (.aload_n 1, 1) := by decide +kernel
theorem dX1_allEnd_80 : decode cX1_allEnd 80 = .ok (.iload_n 2, 1) := by decide +kernel
theorem dX1_allEnd_81 : decode cX1_allEnd 81 = .ok (.invokevirtual 48, 3) := by decide +kernel
theorem dX1_allEnd_84 : decode cX1_allEnd 84 = .ok (.ifCond .ne 5, 3) := by decide +kernel
theorem dX1_allEnd_87 : decode cX1_allEnd 87 = .ok (.iconst 0, 1) := by decide +kernel
theorem dX1_allEnd_88 : decode cX1_allEnd 88 = .ok (.ireturn, 1) := by decide +kernel
theorem dX1_allEnd_89 : decode cX1_allEnd 89 = .ok (.iinc 2 1, 3) := by decide +kernel
theorem dX1_allEnd_92 : decode cX1_allEnd 92 = .ok (.goto (-52), 3) := by decide +kernel
theorem dX1_allEnd_95 : decode cX1_allEnd 95 = .ok (.iconst 1, 1) := by decide +kernel
theorem dX1_allEnd_96 : decode cX1_allEnd 96 = .ok (.ireturn, 1) := by decide +kernel
theorem dX1_numberPrograms_0 : decode cX1_numberPrograms 0 = .ok (.aload_n 0, 1) := by decide +kernel
theorem dX1_numberPrograms_1 : decode cX1_numberPrograms 1 = .ok (.iconst 0, 1) := by decide +kernel
theorem dX1_numberPrograms_2 : decode cX1_numberPrograms 2 = .ok (.putfield 20, 3) := by decide +kernel
theorem dX1_numberPrograms_5 : decode cX1_numberPrograms 5 = .ok (.iconst 0, 1) := by decide +kernel
theorem dX1_numberPrograms_6 : decode cX1_numberPrograms 6 = .ok (.istore_n 2, 1) := by decide +kernel
theorem dX1_numberPrograms_7 : decode cX1_numberPrograms 7 = .ok (.iload_n 2, 1) := by decide +kernel
theorem dX1_numberPrograms_8 : decode cX1_numberPrograms 8 = .ok (.sipush 257, 3) := by decide +kernel
theorem dX1_numberPrograms_11 : decode cX1_numberPrograms 11 = .ok (.if_icmp .ge 65, 3) := by decide +kernel
theorem dX1_numberPrograms_14 : decode cX1_numberPrograms 14 = .ok (.aload_n 0, 1) := by decide +kernel
theorem dX1_numberPrograms_15 : decode cX1_numberPrograms 15 = .ok (.getfield 13, 3) := by decide +kernel
theorem dX1_numberPrograms_18 : decode cX1_numberPrograms 18 = .ok (.iload_n 2, 1) := by decide +kernel
theorem dX1_numberPrograms_19 : decode cX1_numberPrograms 19 = .ok (.iconst (-1), 1) := by decide +kernel
theorem dX1_numberPrograms_20 : decode cX1_numberPrograms 20 = .ok (.iastore, 1) := by decide +kernel
theorem dX1_numberPrograms_21 : decode cX1_numberPrograms 21 = .ok (.aload_n 1, 1) := by decide +kernel
theorem dX1_numberPrograms_22 : decode cX1_numberPrograms 22 = .ok (.iload_n 2, 1) := by decide +kernel
theorem dX1_numberPrograms_23 : decode cX1_numberPrograms 23 = .ok (.invokevirtual 52, 3) := by decide +kernel
theorem dX1_numberPrograms_26 : decode cX1_numberPrograms 26 = .ok (.iconst (-1), 1) := by decide +kernel
theorem dX1_numberPrograms_27 : decode cX1_numberPrograms 27 = .ok (.if_icmp .eq 43, 3) := by decide +kernel
theorem dX1_numberPrograms_30 : decode cX1_numberPrograms 30 = .ok (.aload_n 0, 1) := by decide +kernel
theorem dX1_numberPrograms_31 : decode cX1_numberPrograms 31 = .ok (.getfield 20, 3) := by decide +kernel
theorem dX1_numberPrograms_34 : decode cX1_numberPrograms 34 = .ok (.sipush 257, 3) := by decide +kernel
theorem dX1_numberPrograms_37 : decode cX1_numberPrograms 37 = .ok (.if_icmp .ge 33, 3) := by decide +kernel
theorem dX1_numberPrograms_40 : decode cX1_numberPrograms 40 = .ok (.aload_n 0, 1) := by decide +kernel
theorem dX1_numberPrograms_41 : decode cX1_numberPrograms 41 = .ok (.getfield 13, 3) := by decide +kernel
theorem dX1_numberPrograms_44 : decode cX1_numberPrograms 44 = .ok (.iload_n 2, 1) := by decide +kernel
theorem dX1_numberPrograms_45 : decode cX1_numberPrograms 45 = .ok (.aload_n 0, 1) := by decide +kernel
theorem dX1_numberPrograms_46 : decode cX1_numberPrograms 46 = .ok (.getfield 20, 3) := by decide +kernel
theorem dX1_numberPrograms_49 : decode cX1_numberPrograms 49 = .ok (.iastore, 1) := by decide +kernel
theorem dX1_numberPrograms_50 : decode cX1_numberPrograms 50 = .ok (.aload_n 0, 1) := by decide +kernel
theorem dX1_numberPrograms_51 : decode cX1_numberPrograms 51 = .ok (.getfield 17, 3) := by decide +kernel
theorem dX1_numberPrograms_54 : decode cX1_numberPrograms 54 = .ok (.aload_n 0, 1) := by decide +kernel
theorem dX1_numberPrograms_55 : decode cX1_numberPrograms 55 = .ok (.getfield 20, 3) := by decide +kernel
theorem dX1_numberPrograms_58 : decode cX1_numberPrograms 58 = .ok (.iload_n 2, 1) := by decide +kernel
theorem dX1_numberPrograms_59 : decode cX1_numberPrograms 59 = .ok (.iastore, 1) := by decide +kernel
theorem dX1_numberPrograms_60 : decode cX1_numberPrograms 60 = .ok (.aload_n 0, 1) := by decide +kernel
theorem dX1_numberPrograms_61 : decode cX1_numberPrograms 61 = .ok (.dup, 1) := by decide +kernel
theorem dX1_numberPrograms_62 : decode cX1_numberPrograms 62 = .ok (.getfield 20, 3) := by decide +kernel
theorem dX1_numberPrograms_65 : decode cX1_numberPrograms 65 = .ok (.iconst 1, 1) := by decide +kernel
theorem dX1_numberPrograms_66 : decode cX1_numberPrograms 66 = .ok (.iadd, 1) := by decide +kernel
theorem dX1_numberPrograms_67 : decode cX1_numberPrograms 67 = .ok (.putfield 20, 3) := by decide +kernel
theorem dX1_numberPrograms_70 : decode cX1_numberPrograms 70 = .ok (.iinc 2 1, 3) := by decide +kernel
theorem dX1_numberPrograms_73 : decode cX1_numberPrograms 73 = .ok (.goto (-66), 3) := by decide +kernel
theorem dX1_numberPrograms_76 : decode cX1_numberPrograms 76 = .ok (.return_, 1) := by decide +kernel
theorem dX1_clearTables_0 : decode cX1_clearTables 0 = .ok (.sipush 256, 3) := by decide +kernel
theorem dX1_clearTables_3 : decode cX1_clearTables 3 = .ok (.aload_n 0, 1) := by decide +kernel
theorem dX1_clearTables_4 : decode cX1_clearTables 4 = .ok (.getfield 20, 3) := by decide +kernel
theorem dX1_clearTables_7 : decode cX1_clearTables 7 = .ok (.imul, 1) := by decide +kernel
theorem dX1_clearTables_8 : decode cX1_clearTables 8 = .ok (.istore_n 1, 1) := by decide +kernel
theorem dX1_clearTables_9 : decode cX1_clearTables 9 = .ok (.iload_n 1, 1) := by decide +kernel
theorem dX1_clearTables_10 : decode cX1_clearTables 10 = .ok (.aload_n 0, 1) := by decide +kernel
theorem dX1_clearTables_11 : decode cX1_clearTables 11 = .ok (.getfield 24, 3) := by decide +kernel
theorem dX1_clearTables_14 : decode cX1_clearTables 14 = .ok (.arraylength, 1) := by decide +kernel
theorem dX1_clearTables_15 : decode cX1_clearTables 15 = .ok (.if_icmp .le 41, 3) := by decide +kernel
theorem dX1_clearTables_18 : decode cX1_clearTables 18 = .ok (.ldc 55, 2) := by decide +kernel
theorem dX1_clearTables_20 : decode cX1_clearTables 20 = .ok (.iload_n 1, 1) := by decide +kernel
theorem dX1_clearTables_21 : decode cX1_clearTables 21 = .ok (.iconst 2, 1) := by decide +kernel
theorem dX1_clearTables_22 : decode cX1_clearTables 22 = .ok (.aload_n 0, 1) := by decide +kernel
theorem dX1_clearTables_23 : decode cX1_clearTables 23 = .ok (.getfield 24, 3) := by decide +kernel
theorem dX1_clearTables_26 : decode cX1_clearTables 26 = .ok (.arraylength, 1) := by decide +kernel
theorem dX1_clearTables_27 : decode cX1_clearTables 27 = .ok (.imul, 1) := by decide +kernel
theorem dX1_clearTables_28 : decode cX1_clearTables 28 = .ok (.invokestatic 56, 3) := by decide +kernel
theorem dX1_clearTables_31 : decode cX1_clearTables 31 = .ok (.invokestatic 62, 3) := by decide +kernel
theorem dX1_clearTables_34 : decode cX1_clearTables 34 = .ok (.istore_n 2, 1) := by decide +kernel
theorem dX1_clearTables_35 : decode cX1_clearTables 35 = .ok (.aload_n 0, 1) := by decide +kernel
theorem dX1_clearTables_36 : decode cX1_clearTables 36 = .ok (.iload_n 2, 1) := by decide +kernel
theorem dX1_clearTables_37 : decode cX1_clearTables 37 = .ok (.newarray .int, 2) := by decide +kernel
theorem dX1_clearTables_39 : decode cX1_clearTables 39 = .ok (.putfield 24, 3) := by decide +kernel
theorem dX1_clearTables_42 : decode cX1_clearTables 42 = .ok (.aload_n 0, 1) := by decide +kernel
theorem dX1_clearTables_43 : decode cX1_clearTables 43 = .ok (.iload_n 2, 1) := by decide +kernel
theorem dX1_clearTables_44 : decode cX1_clearTables 44 = .ok (.newarray .int, 2) := by decide +kernel
theorem dX1_clearTables_46 : decode cX1_clearTables 46 = .ok (.putfield 27, 3) := by decide +kernel
theorem dX1_clearTables_49 : decode cX1_clearTables 49 = .ok (.aload_n 0, 1) := by decide +kernel
theorem dX1_clearTables_50 : decode cX1_clearTables 50 = .ok (.iload_n 2, 1) := by decide +kernel
theorem dX1_clearTables_51 : decode cX1_clearTables 51 = .ok (.newarray .int, 2) := by decide +kernel
theorem dX1_clearTables_53 : decode cX1_clearTables 53 = .ok (.putfield 30, 3) := by decide +kernel
theorem dX1_clearTables_56 : decode cX1_clearTables 56 = .ok (.iconst 0, 1) := by decide +kernel
theorem dX1_clearTables_57 : decode cX1_clearTables 57 = .ok (.istore_n 2, 1) := by decide +kernel
theorem dX1_clearTables_58 : decode cX1_clearTables 58 = .ok (.iload_n 2, 1) := by decide +kernel
theorem dX1_clearTables_59 : decode cX1_clearTables 59 = .ok (.iload_n 1, 1) := by decide +kernel
theorem dX1_clearTables_60 : decode cX1_clearTables 60 = .ok (.if_icmp .ge 41, 3) := by decide +kernel
theorem dX1_clearTables_63 : decode cX1_clearTables 63 = .ok (.iload_n 2, 1) := by decide +kernel
theorem dX1_clearTables_64 : decode cX1_clearTables 64 = .ok (.aload_n 0, 1) := by decide +kernel
theorem dX1_clearTables_65 : decode cX1_clearTables 65 = .ok (.getfield 24, 3) := by decide +kernel
theorem dX1_clearTables_68 : decode cX1_clearTables 68 = .ok (.arraylength, 1) := by decide +kernel
theorem dX1_clearTables_69 : decode cX1_clearTables 69 = .ok (.if_icmp .ge 32, 3) := by decide +kernel
theorem dX1_clearTables_72 : decode cX1_clearTables 72 = .ok (.iload_n 2, 1) := by decide +kernel
theorem dX1_clearTables_73 : decode cX1_clearTables 73 = .ok (.aload_n 0, 1) := by decide +kernel
theorem dX1_clearTables_74 : decode cX1_clearTables 74 = .ok (.getfield 27, 3) := by decide +kernel
theorem dX1_clearTables_77 : decode cX1_clearTables 77 = .ok (.arraylength, 1) := by decide +kernel
theorem dX1_clearTables_78 : decode cX1_clearTables 78 = .ok (.if_icmp .ge 23, 3) := by decide +kernel
theorem dX1_clearTables_81 : decode cX1_clearTables 81 = .ok (.aload_n 0, 1) := by decide +kernel
theorem dX1_clearTables_82 : decode cX1_clearTables 82 = .ok (.getfield 24, 3) := by decide +kernel
theorem dX1_clearTables_85 : decode cX1_clearTables 85 = .ok (.iload_n 2, 1) := by decide +kernel
theorem dX1_clearTables_86 : decode cX1_clearTables 86 = .ok (.iconst 0, 1) := by decide +kernel
theorem dX1_clearTables_87 : decode cX1_clearTables 87 = .ok (.iastore, 1) := by decide +kernel
theorem dX1_clearTables_88 : decode cX1_clearTables 88 = .ok (.aload_n 0, 1) := by decide +kernel
theorem dX1_clearTables_89 : decode cX1_clearTables 89 = .ok (.getfield 27, 3) := by decide +kernel
theorem dX1_clearTables_92 : decode cX1_clearTables 92 = .ok (.iload_n 2, 1) := by decide +kernel
theorem dX1_clearTables_93 : decode cX1_clearTables 93 = .ok (.iconst 0, 1) := by decide +kernel
theorem dX1_clearTables_94 : decode cX1_clearTables 94 = .ok (.iastore, 1) := by decide +kernel
theorem dX1_clearTables_95 : decode cX1_clearTables 95 = .ok (.iinc 2 1, 3) := by decide +kernel
theorem dX1_clearTables_98 : decode cX1_clearTables 98 = .ok (.goto (-40), 3) := by decide +kernel
theorem dX1_clearTables_101 : decode cX1_clearTables 101 = .ok (.return_, 1) := by decide +kernel
theorem dX1_noteSteps_0 : decode cX1_noteSteps 0 = .ok (.aload_n 1, 1) := by decide +kernel
theorem dX1_noteSteps_1 : decode cX1_noteSteps 1 = .ok (.aload_n 0, 1) := by decide +kernel
theorem dX1_noteSteps_2 : decode cX1_noteSteps 2 = .ok (.getfield 17, 3) := by decide +kernel
theorem dX1_noteSteps_5 : decode cX1_noteSteps 5 = .ok (.iload_n 2, 1) := by decide +kernel
theorem dX1_noteSteps_6 : decode cX1_noteSteps 6 = .ok (.iaload, 1) := by decide +kernel
theorem dX1_noteSteps_7 : decode cX1_noteSteps 7 = .ok (.invokevirtual 52, 3) := by decide +kernel
theorem dX1_noteSteps_10 : decode cX1_noteSteps 10 = .ok (.istore_n 3, 1) := by decide +kernel
theorem dX1_noteSteps_11 : decode cX1_noteSteps 11 = .ok (.iconst 0, 1) := by decide +kernel
theorem dX1_noteSteps_12 : decode cX1_noteSteps 12 = .ok (.istore 4, 2) := by decide +kernel
theorem dX1_noteSteps_14 : decode cX1_noteSteps 14 = .ok (.iload 4, 2) := by decide +kernel
theorem dX1_noteSteps_16 : decode cX1_noteSteps 16 = .ok (.aload_n 1, 1) := by decide +kernel
theorem dX1_noteSteps_17 : decode cX1_noteSteps 17 = .ok (.bipush 6, 2) := by decide +kernel
theorem dX1_noteSteps_19 : decode cX1_noteSteps 19 = .ok (.invokevirtual 65, 3) := by decide +kernel
theorem dX1_noteSteps_22 : decode cX1_noteSteps 22 = .ok (.if_icmp .ge 71, 3) := by decide +kernel
theorem dX1_noteSteps_25 : decode cX1_noteSteps 25 = .ok (.iload_n 3, 1) := by decide +kernel
theorem dX1_noteSteps_26 : decode cX1_noteSteps 26 = .ok (.iconst (-1), 1) := by decide +kernel
theorem dX1_noteSteps_27 : decode cX1_noteSteps 27 = .ok (.if_icmp .eq 66, 3) := by decide +kernel
theorem dX1_noteSteps_30 : decode cX1_noteSteps 30 = .ok (.sipush 256, 3) := by decide +kernel
theorem dX1_noteSteps_33 : decode cX1_noteSteps 33 = .ok (.iload_n 2, 1) := by decide +kernel
theorem dX1_noteSteps_34 : decode cX1_noteSteps 34 = .ok (.imul, 1) := by decide +kernel
theorem dX1_noteSteps_35 : decode cX1_noteSteps 35 = .ok (.aload_n 1, 1) := by decide +kernel
theorem dX1_noteSteps_36 : decode cX1_noteSteps 36 = .ok (.iload_n 3, 1) := by decide +kernel
theorem dX1_noteSteps_37 : decode cX1_noteSteps 37 = .ok (.invokevirtual 68, 3) := by decide +kernel
theorem dX1_noteSteps_40 : decode cX1_noteSteps 40 = .ok (.iadd, 1) := by decide +kernel
theorem dX1_noteSteps_41 : decode cX1_noteSteps 41 = .ok (.istore 5, 2) := by decide +kernel
theorem dX1_noteSteps_43 : decode cX1_noteSteps 43 = .ok (.aload_n 1, 1) := by decide +kernel
theorem dX1_noteSteps_44 : decode cX1_noteSteps 44 = .ok (.iload_n 3, 1) := by decide +kernel
theorem dX1_noteSteps_45 : decode cX1_noteSteps 45 = .ok (.invokevirtual 70, 3) := by decide +kernel
theorem dX1_noteSteps_48 : decode cX1_noteSteps 48 = .ok (.ifCond .ne 33, 3) := by decide +kernel
theorem dX1_noteSteps_51 : decode cX1_noteSteps 51 = .ok (.iload 5, 2) := by decide +kernel
theorem dX1_noteSteps_53 : decode cX1_noteSteps 53 = .ok (.aload_n 0, 1) := by decide +kernel
theorem dX1_noteSteps_54 : decode cX1_noteSteps 54 = .ok (.getfield 24, 3) := by decide +kernel
theorem dX1_noteSteps_57 : decode cX1_noteSteps 57 = .ok (.arraylength, 1) := by decide +kernel
theorem dX1_noteSteps_58 : decode cX1_noteSteps 58 = .ok (.if_icmp .ge 23, 3) := by decide +kernel
theorem dX1_noteSteps_61 : decode cX1_noteSteps 61 = .ok (.aload_n 0, 1) := by decide +kernel
theorem dX1_noteSteps_62 : decode cX1_noteSteps 62 = .ok (.getfield 24, 3) := by decide +kernel
theorem dX1_noteSteps_65 : decode cX1_noteSteps 65 = .ok (.iload 5, 2) := by decide +kernel
theorem dX1_noteSteps_67 : decode cX1_noteSteps 67 = .ok (.iaload, 1) := by decide +kernel
theorem dX1_noteSteps_68 : decode cX1_noteSteps 68 = .ok (.ifCond .ne 13, 3) := by decide +kernel
theorem dX1_noteSteps_71 : decode cX1_noteSteps 71 = .ok (.aload_n 0, 1) := by decide +kernel
theorem dX1_noteSteps_72 : decode cX1_noteSteps 72 = .ok (.getfield 24, 3) := by decide +kernel
theorem dX1_noteSteps_75 : decode cX1_noteSteps 75 = .ok (.iload 5, 2) := by decide +kernel
theorem dX1_noteSteps_77 : decode cX1_noteSteps 77 = .ok (.iload_n 3, 1) := by decide +kernel
theorem dX1_noteSteps_78 : decode cX1_noteSteps 78 = .ok (.iconst 1, 1) := by decide +kernel
theorem dX1_noteSteps_79 : decode cX1_noteSteps 79 = .ok (.iadd, 1) := by decide +kernel
theorem dX1_noteSteps_80 : decode cX1_noteSteps 80 = .ok (.iastore, 1) := by decide +kernel
theorem dX1_noteSteps_81 : decode cX1_noteSteps 81 = .ok (.aload_n 1, 1) := by decide +kernel
theorem dX1_noteSteps_82 : decode cX1_noteSteps 82 = .ok (.iload_n 3, 1) := by decide +kernel
theorem dX1_noteSteps_83 : decode cX1_noteSteps 83 = .ok (.invokevirtual 74, 3) := by decide +kernel
theorem dX1_noteSteps_86 : decode cX1_noteSteps 86 = .ok (.istore_n 3, 1) := by decide +kernel
theorem dX1_noteSteps_87 : decode cX1_noteSteps 87 = .ok (.iinc 4 1, 3) := by decide +kernel
theorem dX1_noteSteps_90 : decode cX1_noteSteps 90 = .ok (.goto (-76), 3) := by decide +kernel
theorem dX1_noteSteps_93 : decode cX1_noteSteps 93 = .ok (.return_, 1) := by decide +kernel
theorem dX1_ends_0 : decode cX1_ends 0 = .ok (.aload_n 0, 1) := by decide +kernel
theorem dX1_ends_1 : decode cX1_ends 1 = .ok (.iload_n 2, 1) := by decide +kernel
theorem dX1_ends_2 : decode cX1_ends 2 = .ok (.iconst 0, 1) := by decide +kernel
theorem dX1_ends_3 : decode cX1_ends 3 = .ok (.invokevirtual 77, 3) := by decide +kernel
theorem dX1_ends_6 : decode cX1_ends 6 = .ok (.istore_n 3, 1) := by decide +kernel
theorem dX1_ends_7 : decode cX1_ends 7 = .ok (.iconst 0, 1) := by decide +kernel
theorem dX1_ends_8 : decode cX1_ends 8 = .ok (.istore 4, 2) := by decide +kernel
theorem dX1_ends_10 : decode cX1_ends 10 = .ok (.iload 4, 2) := by decide +kernel
theorem dX1_ends_12 : decode cX1_ends 12 = .ok (.iconst 3, 1) := by decide +kernel
theorem dX1_ends_13 : decode cX1_ends 13 = .ok (.aload_n 0, 1) := by decide +kernel
theorem dX1_ends_14 : decode cX1_ends 14 = .ok (.getfield 30, 3) := by decide +kernel
theorem dX1_ends_17 : decode cX1_ends 17 = .ok (.arraylength, 1) := by decide +kernel
theorem dX1_ends_18 : decode cX1_ends 18 = .ok (.imul, 1) := by decide +kernel
theorem dX1_ends_19 : decode cX1_ends 19 = .ok (.if_icmp .ge 69, 3) := by decide +kernel
theorem dX1_ends_22 : decode cX1_ends 22 = .ok (.iload_n 3, 1) := by decide +kernel
theorem dX1_ends_23 : decode cX1_ends 23 = .ok (.ifCond .le 65, 3) := by decide +kernel
theorem dX1_ends_26 : decode cX1_ends 26 = .ok (.iload_n 3, 1) := by decide +kernel
theorem dX1_ends_27 : decode cX1_ends 27 = .ok (.aload_n 0, 1) := by decide +kernel
theorem dX1_ends_28 : decode cX1_ends 28 = .ok (.getfield 30, 3) := by decide +kernel
theorem dX1_ends_31 : decode cX1_ends 31 = .ok (.arraylength, 1) := by decide +kernel
theorem dX1_ends_32 : decode cX1_ends 32 = .ok (.if_icmp .gt 56, 3) := by decide +kernel
theorem dX1_ends_35 : decode cX1_ends 35 = .ok (.aload_n 0, 1) := by decide +kernel
theorem dX1_ends_36 : decode cX1_ends 36 = .ok (.aload_n 1, 1) := by decide +kernel
theorem dX1_ends_37 : decode cX1_ends 37 = .ok (.aload_n 0, 1) := by decide +kernel
theorem dX1_ends_38 : decode cX1_ends 38 = .ok (.getfield 30, 3) := by decide +kernel
theorem dX1_ends_41 : decode cX1_ends 41 = .ok (.iload_n 3, 1) := by decide +kernel
theorem dX1_ends_42 : decode cX1_ends 42 = .ok (.iconst 1, 1) := by decide +kernel
theorem dX1_ends_43 : decode cX1_ends 43 = .ok (.isub, 1) := by decide +kernel
theorem dX1_ends_44 : decode cX1_ends 44 = .ok (.iaload, 1) := by decide +kernel
theorem dX1_ends_45 : decode cX1_ends 45 = .ok (.invokevirtual 80, 3) := by decide +kernel
theorem dX1_ends_48 : decode cX1_ends 48 = .ok (.istore 5, 2) := by decide +kernel
theorem dX1_ends_50 : decode cX1_ends 50 = .ok (.iload 5, 2) := by decide +kernel
theorem dX1_ends_52 : decode cX1_ends 52 = .ok (.iconst (-1), 1) := by decide +kernel
theorem dX1_ends_53 : decode cX1_ends 53 = .ok (.if_icmp .ne 9, 3) := by decide +kernel
theorem dX1_ends_56 : decode cX1_ends 56 = .ok (.iinc 3 (-1), 3) := by decide +kernel
theorem dX1_ends_59 : decode cX1_ends 59 = .ok (.goto 23, 3) := by decide +kernel
theorem dX1_ends_62 : decode cX1_ends 62 = .ok (.aload_n 0, 1) := by decide +kernel
theorem dX1_ends_63 : decode cX1_ends 63 = .ok (.iload 5, 2) := by decide +kernel
theorem dX1_ends_65 : decode cX1_ends 65 = .ok (.invokevirtual 44, 3) := by decide +kernel
theorem dX1_ends_68 : decode cX1_ends 68 = .ok (.iconst (-1), 1) := by decide +kernel
theorem dX1_ends_69 : decode cX1_ends 69 = .ok (.if_icmp .ne 5, 3) := by decide +kernel
theorem dX1_ends_72 : decode cX1_ends 72 = .ok (.iconst 0, 1) := by decide +kernel
theorem dX1_ends_73 : decode cX1_ends 73 = .ok (.ireturn, 1) := by decide +kernel
theorem dX1_ends_74 : decode cX1_ends 74 = .ok (.aload_n 0, 1) := by decide +kernel
theorem dX1_ends_75 : decode cX1_ends 75 = .ok (.iload 5, 2) := by decide +kernel
theorem dX1_ends_77 : decode cX1_ends 77 = .ok (.iload_n 3, 1) := by decide +kernel
theorem dX1_ends_78 : decode cX1_ends 78 = .ok (.invokevirtual 77, 3) := by decide +kernel
theorem dX1_ends_81 : decode cX1_ends 81 = .ok (.istore_n 3, 1) := by decide +kernel
theorem dX1_ends_82 : decode cX1_ends 82 = .ok (.iinc 4 1, 3) := by decide +kernel
theorem dX1_ends_85 : decode cX1_ends 85 = .ok (.goto (-75), 3) := by decide +kernel
theorem dX1_ends_88 : decode cX1_ends 88 = .ok (.iload_n 3, 1) := by decide +kernel
theorem dX1_ends_89 : decode cX1_ends 89 = .ok (.ifCond .ne 7, 3) := by decide +kernel
theorem dX1_ends_92 : decode cX1_ends 92 = .ok (.iconst 1, 1) := by decide +kernel
theorem dX1_ends_93 : decode cX1_ends 93 = .ok (.goto 4, 3) := by decide +kernel
theorem dX1_ends_96 : decode cX1_ends 96 = .ok (.iconst 0, 1) := by decide +kernel
theorem dX1_ends_97 : decode cX1_ends 97 = .ok (.ireturn, 1) := by decide +kernel
theorem dX1_awaitAnswer_0 : decode cX1_awaitAnswer 0 = .ok (.iload_n 1, 1) := by decide +kernel
theorem dX1_awaitAnswer_1 : decode cX1_awaitAnswer 1 = .ok (.ifCond .lt 39, 3) := by decide +kernel
theorem dX1_awaitAnswer_4 : decode cX1_awaitAnswer 4 = .ok (.iload_n 1, 1) := by decide +kernel
theorem dX1_awaitAnswer_5 : decode cX1_awaitAnswer 5 = .ok (.aload_n 0, 1) := by decide +kernel
theorem dX1_awaitAnswer_6 : decode cX1_awaitAnswer 6 = .ok (.getfield 27, 3) := by decide +kernel
theorem dX1_awaitAnswer_9 : decode cX1_awaitAnswer 9 = .ok (.arraylength, 1) := by decide +kernel
theorem dX1_awaitAnswer_10 : decode cX1_awaitAnswer 10 = .ok (.if_icmp .ge 30, 3) := by decide +kernel
theorem dX1_awaitAnswer_13 : decode cX1_awaitAnswer 13 = .ok (.iload_n 2, 1) := by decide +kernel
theorem dX1_awaitAnswer_14 : decode cX1_awaitAnswer 14 = .ok (.ifCond .lt 26, 3) := by decide +kernel
theorem dX1_awaitAnswer_17 : decode cX1_awaitAnswer 17 = .ok (.iload_n 2, 1) := by decide +kernel
theorem dX1_awaitAnswer_18 : decode cX1_awaitAnswer 18 = .ok (.aload_n 0, 1) := by decide +kernel
theorem dX1_awaitAnswer_19 : decode cX1_awaitAnswer 19 = .ok (.getfield 30, 3) := by decide +kernel
theorem dX1_awaitAnswer_22 : decode cX1_awaitAnswer 22 = .ok (.arraylength, 1) := by decide +kernel
theorem dX1_awaitAnswer_23 : decode cX1_awaitAnswer 23 = .ok (.if_icmp .ge 17, 3) := by decide +kernel
theorem dX1_awaitAnswer_26 : decode cX1_awaitAnswer 26 = .ok (.aload_n 0, 1) := by decide +kernel
theorem dX1_awaitAnswer_27 : decode cX1_awaitAnswer 27 = .ok (.getfield 27, 3) := by decide +kernel
theorem dX1_awaitAnswer_30 : decode cX1_awaitAnswer 30 = .ok (.iload_n 1, 1) := by decide +kernel
theorem dX1_awaitAnswer_31 : decode cX1_awaitAnswer 31 = .ok (.iconst (-1), 1) := by decide +kernel
theorem dX1_awaitAnswer_32 : decode cX1_awaitAnswer 32 = .ok (.iastore, 1) := by decide +kernel
theorem dX1_awaitAnswer_33 : decode cX1_awaitAnswer 33 = .ok (.aload_n 0, 1) := by decide +kernel
theorem dX1_awaitAnswer_34 : decode cX1_awaitAnswer 34 = .ok (.getfield 30, 3) := by decide +kernel
theorem dX1_awaitAnswer_37 : decode cX1_awaitAnswer 37 = .ok (.iload_n 2, 1) := by decide +kernel
theorem dX1_awaitAnswer_38 : decode cX1_awaitAnswer 38 = .ok (.iload_n 1, 1) := by decide +kernel
theorem dX1_awaitAnswer_39 : decode cX1_awaitAnswer 39 = .ok (.iastore, 1) := by decide +kernel
theorem dX1_awaitAnswer_40 : decode cX1_awaitAnswer 40 = .ok (.iload_n 2, 1) := by decide +kernel
theorem dX1_awaitAnswer_41 : decode cX1_awaitAnswer 41 = .ok (.iconst 1, 1) := by decide +kernel
theorem dX1_awaitAnswer_42 : decode cX1_awaitAnswer 42 = .ok (.iadd, 1) := by decide +kernel
theorem dX1_awaitAnswer_43 : decode cX1_awaitAnswer 43 = .ok (.ireturn, 1) := by decide +kernel
theorem dX1_answer_0 : decode cX1_answer 0 = .ok (.iload_n 2, 1) := by decide +kernel
theorem dX1_answer_1 : decode cX1_answer 1 = .ok (.bipush 8, 2) := by decide +kernel
theorem dX1_answer_3 : decode cX1_answer 3 = .ok (.ishr, 1) := by decide +kernel
theorem dX1_answer_4 : decode cX1_answer 4 = .ok (.istore_n 3, 1) := by decide +kernel
theorem dX1_answer_5 : decode cX1_answer 5 = .ok (.iload_n 2, 1) := by decide +kernel
theorem dX1_answer_6 : decode cX1_answer 6 = .ok (.ifCond .lt 19, 3) := by decide +kernel
theorem dX1_answer_9 : decode cX1_answer 9 = .ok (.iload_n 2, 1) := by decide +kernel
theorem dX1_answer_10 : decode cX1_answer 10 = .ok (.aload_n 0, 1) := by decide +kernel
theorem dX1_answer_11 : decode cX1_answer 11 = .ok (.getfield 24, 3) := by decide +kernel
theorem dX1_answer_14 : decode cX1_answer 14 = .ok (.arraylength, 1) := by decide +kernel
theorem dX1_answer_15 : decode cX1_answer 15 = .ok (.if_icmp .ge 10, 3) := by decide +kernel
theorem dX1_answer_18 : decode cX1_answer 18 = .ok (.iload_n 3, 1) := by decide +kernel
theorem dX1_answer_19 : decode cX1_answer 19 = .ok (.sipush 257, 3) := by decide +kernel
theorem dX1_answer_22 : decode cX1_answer 22 = .ok (.if_icmp .lt 5, 3) := by decide +kernel
theorem dX1_answer_25 : decode cX1_answer 25 = .ok (.iconst (-1), 1) := by decide +kernel
theorem dX1_answer_26 : decode cX1_answer 26 = .ok (.ireturn, 1) := by decide +kernel
theorem dX1_answer_27 : decode cX1_answer 27 = .ok (.aload_n 0, 1) := by decide +kernel
theorem dX1_answer_28 : decode cX1_answer 28 = .ok (.getfield 17, 3) := by decide +kernel
theorem dX1_answer_31 : decode cX1_answer 31 = .ok (.iload_n 3, 1) := by decide +kernel
theorem dX1_answer_32 : decode cX1_answer 32 = .ok (.iaload, 1) := by decide +kernel
theorem dX1_answer_33 : decode cX1_answer 33 = .ok (.istore 4, 2) := by decide +kernel
theorem dX1_answer_35 : decode cX1_answer 35 = .ok (.iload_n 2, 1) := by decide +kernel
theorem dX1_answer_36 : decode cX1_answer 36 = .ok (.sipush 255, 3) := by decide +kernel
theorem dX1_answer_39 : decode cX1_answer 39 = .ok (.iand, 1) := by decide +kernel
theorem dX1_answer_40 : decode cX1_answer 40 = .ok (.istore 5, 2) := by decide +kernel
theorem dX1_answer_42 : decode cX1_answer 42 = .ok (.aload_n 0, 1) := by decide +kernel
theorem dX1_answer_43 : decode cX1_answer 43 = .ok (.getfield 24, 3) := by decide +kernel
theorem dX1_answer_46 : decode cX1_answer 46 = .ok (.iload_n 2, 1) := by decide +kernel
theorem dX1_answer_47 : decode cX1_answer 47 = .ok (.iaload, 1) := by decide +kernel
theorem dX1_answer_48 : decode cX1_answer 48 = .ok (.iconst 1, 1) := by decide +kernel
theorem dX1_answer_49 : decode cX1_answer 49 = .ok (.isub, 1) := by decide +kernel
theorem dX1_answer_50 : decode cX1_answer 50 = .ok (.istore 6, 2) := by decide +kernel
theorem dX1_answer_52 : decode cX1_answer 52 = .ok (.aload_n 1, 1) := by decide +kernel
theorem dX1_answer_53 : decode cX1_answer 53 = .ok (.iload 6, 2) := by decide +kernel
theorem dX1_answer_55 : decode cX1_answer 55 = .ok (.invokevirtual 84, 3) := by decide +kernel
theorem dX1_answer_58 : decode cX1_answer 58 = .ok (.istore 7, 2) := by decide +kernel
theorem dX1_answer_60 : decode cX1_answer 60 = .ok (.aload_n 1, 1) := by decide +kernel
theorem dX1_answer_61 : decode cX1_answer 61 = .ok (.iload 6, 2) := by decide +kernel
theorem dX1_answer_63 : decode cX1_answer 63 = .ok (.invokevirtual 87, 3) := by decide +kernel
theorem dX1_answer_66 : decode cX1_answer 66 = .ok (.istore 8, 2) := by decide +kernel
theorem dX1_answer_68 : decode cX1_answer 68 = .ok (.iload 6, 2) := by decide +kernel
theorem dX1_answer_70 : decode cX1_answer 70 = .ok (.ifCond .lt 25, 3) := by decide +kernel
theorem dX1_answer_73 : decode cX1_answer 73 = .ok (.aload_n 1, 1) := by decide +kernel
theorem dX1_answer_74 : decode cX1_answer 74 = .ok (.iload 6, 2) := by decide +kernel
theorem dX1_answer_76 : decode cX1_answer 76 = .ok (.invokevirtual 90, 3) := by decide +kernel
theorem dX1_answer_79 : decode cX1_answer 79 = .ok (.ifCond .ne 16, 3) := by decide +kernel
theorem dX1_answer_82 : decode cX1_answer 82 = .ok (.iload 7, 2) := by decide +kernel
theorem dX1_answer_84 : decode cX1_answer 84 = .ok (.iconst 5, 1) := by decide +kernel
theorem dX1_answer_85 : decode cX1_answer 85 = .ok (.if_icmp .eq 10, 3) := by decide +kernel
theorem dX1_answer_88 : decode cX1_answer 88 = .ok (.iload 7, 2) := by decide +kernel
theorem dX1_answer_90 : decode cX1_answer 90 = .ok (.bipush 11, 2) := by decide +kernel
theorem dX1_answer_92 : decode cX1_answer 92 = .ok (.if_icmp .ne 11, 3) := by decide +kernel
theorem dX1_answer_95 : decode cX1_answer 95 = .ok (.aload_n 0, 1) := by decide +kernel
theorem dX1_answer_96 : decode cX1_answer 96 = .ok (.iload_n 2, 1) := by decide +kernel
theorem dX1_answer_97 : decode cX1_answer 97 = .ok (.iload 5, 2) := by decide +kernel
theorem dX1_answer_99 : decode cX1_answer 99 = .ok (.invokevirtual 93, 3) := by decide +kernel
theorem dX1_answer_102 : decode cX1_answer 102 = .ok (.ireturn, 1) := by decide +kernel
theorem dX1_answer_103 : decode cX1_answer 103 = .ok (.iload 7, 2) := by decide +kernel
theorem dX1_answer_105 : decode cX1_answer 105 = .ok (.tableswitch 100 1 7 #[43, 53, 63, 100, 100, 100, 43], 43) := by decide +kernel
theorem dX1_answer_148 : decode cX1_answer 148 = .ok (.aload_n 0, 1) := by decide +kernel
theorem dX1_answer_149 : decode cX1_answer 149 = .ok (.iload_n 2, 1) := by decide +kernel
theorem dX1_answer_150 : decode cX1_answer 150 = .ok (.iload 8, 2) := by decide +kernel
theorem dX1_answer_152 : decode cX1_answer 152 = .ok (.iload 5, 2) := by decide +kernel
theorem dX1_answer_154 : decode cX1_answer 154 = .ok (.invokevirtual 96, 3) := by decide +kernel
theorem dX1_answer_157 : decode cX1_answer 157 = .ok (.ireturn, 1) := by decide +kernel
theorem dX1_answer_158 : decode cX1_answer 158 = .ok (.aload_n 0, 1) := by decide +kernel
theorem dX1_answer_159 : decode cX1_answer 159 = .ok (.iload_n 2, 1) := by decide +kernel
theorem dX1_answer_160 : decode cX1_answer 160 = .ok (.iload 4, 2) := by decide +kernel
theorem dX1_answer_162 : decode cX1_answer 162 = .ok (.iload 8, 2) := by decide +kernel
theorem dX1_answer_164 : decode cX1_answer 164 = .ok (.invokevirtual 96, 3) := by decide +kernel
theorem dX1_answer_167 : decode cX1_answer 167 = .ok (.ireturn, 1) := by decide +kernel
theorem dX1_answer_168 : decode cX1_answer 168 = .ok (.aload_n 0, 1) := by decide +kernel
theorem dX1_answer_169 : decode cX1_answer 169 = .ok (.iload 4, 2) := by decide +kernel
theorem dX1_answer_171 : decode cX1_answer 171 = .ok (.iload 8, 2) := by decide +kernel
theorem dX1_answer_173 : decode cX1_answer 173 = .ok (.invokevirtual 100, 3) := by decide +kernel
theorem dX1_answer_176 : decode cX1_answer 176 = .ok (.istore 9, 2) := by decide +kernel
theorem dX1_answer_178 : decode cX1_answer 178 = .ok (.iload 9, 2) := by decide +kernel
theorem dX1_answer_180 : decode cX1_answer 180 = .ok (.iconst (-1), 1) := by decide +kernel
theorem dX1_answer_181 : decode cX1_answer 181 = .ok (.if_icmp .ne 14, 3) := by decide +kernel
theorem dX1_answer_184 : decode cX1_answer 184 = .ok (.aload_n 0, 1) := by decide +kernel
theorem dX1_answer_185 : decode cX1_answer 185 = .ok (.iload 4, 2) := by decide +kernel
theorem dX1_answer_187 : decode cX1_answer 187 = .ok (.iload 8, 2) := by decide +kernel
theorem dX1_answer_189 : decode cX1_answer 189 = .ok (.invokevirtual 103, 3) := by decide +kernel
theorem dX1_answer_192 : decode cX1_answer 192 = .ok (.goto 12, 3) := by decide +kernel
theorem dX1_answer_195 : decode cX1_answer 195 = .ok (.aload_n 0, 1) := by decide +kernel
theorem dX1_answer_196 : decode cX1_answer 196 = .ok (.iload_n 2, 1) := by decide +kernel
theorem dX1_answer_197 : decode cX1_answer 197 = .ok (.iload 9, 2) := by decide +kernel
theorem dX1_answer_199 : decode cX1_answer 199 = .ok (.iload 5, 2) := by decide +kernel
theorem dX1_answer_201 : decode cX1_answer 201 = .ok (.invokevirtual 96, 3) := by decide +kernel
theorem dX1_answer_204 : decode cX1_answer 204 = .ok (.ireturn, 1) := by decide +kernel
theorem dX1_answer_205 : decode cX1_answer 205 = .ok (.aload_n 0, 1) := by decide +kernel
theorem dX1_answer_206 : decode cX1_answer 206 = .ok (.iload_n 2, 1) := by decide +kernel
theorem dX1_answer_207 : decode cX1_answer 207 = .ok (.iload 8, 2) := by decide +kernel
theorem dX1_answer_209 : decode cX1_answer 209 = .ok (.invokevirtual 93, 3) := by decide +kernel
theorem dX1_answer_212 : decode cX1_answer 212 = .ok (.ireturn, 1) := by decide +kernel
theorem dX1_answerAs_0 : decode cX1_answerAs 0 = .ok (.aload_n 0, 1) := by decide +kernel
theorem dX1_answerAs_1 : decode cX1_answerAs 1 = .ok (.iload_n 2, 1) := by decide +kernel
theorem dX1_answerAs_2 : decode cX1_answerAs 2 = .ok (.iload_n 3, 1) := by decide +kernel
theorem dX1_answerAs_3 : decode cX1_answerAs 3 = .ok (.invokevirtual 100, 3) := by decide +kernel
theorem dX1_answerAs_6 : decode cX1_answerAs 6 = .ok (.istore 4, 2) := by decide +kernel
theorem dX1_answerAs_8 : decode cX1_answerAs 8 = .ok (.iload 4, 2) := by decide +kernel
theorem dX1_answerAs_10 : decode cX1_answerAs 10 = .ok (.iconst (-1), 1) := by decide +kernel
theorem dX1_answerAs_11 : decode cX1_answerAs 11 = .ok (.if_icmp .ne 12, 3) := by decide +kernel
theorem dX1_answerAs_14 : decode cX1_answerAs 14 = .ok (.aload_n 0, 1) := by decide +kernel
theorem dX1_answerAs_15 : decode cX1_answerAs 15 = .ok (.iload_n 2, 1) := by decide +kernel
theorem dX1_answerAs_16 : decode cX1_answerAs 16 = .ok (.iload_n 3, 1) := by decide +kernel
theorem dX1_answerAs_17 : decode cX1_answerAs 17 = .ok (.invokevirtual 103, 3) := by decide +kernel
theorem dX1_answerAs_20 : decode cX1_answerAs 20 = .ok (.goto 10, 3) := by decide +kernel
theorem dX1_answerAs_23 : decode cX1_answerAs 23 = .ok (.aload_n 0, 1) := by decide +kernel
theorem dX1_answerAs_24 : decode cX1_answerAs 24 = .ok (.iload_n 1, 1) := by decide +kernel
theorem dX1_answerAs_25 : decode cX1_answerAs 25 = .ok (.iload 4, 2) := by decide +kernel
theorem dX1_answerAs_27 : decode cX1_answerAs 27 = .ok (.invokevirtual 93, 3) := by decide +kernel
theorem dX1_answerAs_30 : decode cX1_answerAs 30 = .ok (.ireturn, 1) := by decide +kernel
theorem dX1_know_0 : decode cX1_know 0 = .ok (.iload_n 1, 1) := by decide +kernel
theorem dX1_know_1 : decode cX1_know 1 = .ok (.ifCond .lt 21, 3) := by decide +kernel
theorem dX1_know_4 : decode cX1_know 4 = .ok (.iload_n 1, 1) := by decide +kernel
theorem dX1_know_5 : decode cX1_know 5 = .ok (.aload_n 0, 1) := by decide +kernel
theorem dX1_know_6 : decode cX1_know 6 = .ok (.getfield 27, 3) := by decide +kernel
theorem dX1_know_9 : decode cX1_know 9 = .ok (.arraylength, 1) := by decide +kernel
theorem dX1_know_10 : decode cX1_know 10 = .ok (.if_icmp .ge 12, 3) := by decide +kernel
theorem dX1_know_13 : decode cX1_know 13 = .ok (.aload_n 0, 1) := by decide +kernel
theorem dX1_know_14 : decode cX1_know 14 = .ok (.getfield 27, 3) := by decide +kernel
theorem dX1_know_17 : decode cX1_know 17 = .ok (.iload_n 1, 1) := by decide +kernel
theorem dX1_know_18 : decode cX1_know 18 = .ok (.iload_n 2, 1) := by decide +kernel
theorem dX1_know_19 : decode cX1_know 19 = .ok (.iconst 1, 1) := by decide +kernel
theorem dX1_know_20 : decode cX1_know 20 = .ok (.iadd, 1) := by decide +kernel
theorem dX1_know_21 : decode cX1_know 21 = .ok (.iastore, 1) := by decide +kernel
theorem dX1_know_22 : decode cX1_know 22 = .ok (.iconst (-1), 1) := by decide +kernel
theorem dX1_know_23 : decode cX1_know 23 = .ok (.ireturn, 1) := by decide +kernel
theorem dX1_endOf_0 : decode cX1_endOf 0 = .ok (.aload_n 0, 1) := by decide +kernel
theorem dX1_endOf_1 : decode cX1_endOf 1 = .ok (.iload_n 1, 1) := by decide +kernel
theorem dX1_endOf_2 : decode cX1_endOf 2 = .ok (.iload_n 2, 1) := by decide +kernel
theorem dX1_endOf_3 : decode cX1_endOf 3 = .ok (.invokevirtual 103, 3) := by decide +kernel
theorem dX1_endOf_6 : decode cX1_endOf 6 = .ok (.istore_n 3, 1) := by decide +kernel
theorem dX1_endOf_7 : decode cX1_endOf 7 = .ok (.iload_n 3, 1) := by decide +kernel
theorem dX1_endOf_8 : decode cX1_endOf 8 = .ok (.iconst (-1), 1) := by decide +kernel
theorem dX1_endOf_9 : decode cX1_endOf 9 = .ok (.if_icmp .ne 5, 3) := by decide +kernel
theorem dX1_endOf_12 : decode cX1_endOf 12 = .ok (.iload_n 2, 1) := by decide +kernel
theorem dX1_endOf_13 : decode cX1_endOf 13 = .ok (.ireturn, 1) := by decide +kernel
theorem dX1_endOf_14 : decode cX1_endOf 14 = .ok (.aload_n 0, 1) := by decide +kernel
theorem dX1_endOf_15 : decode cX1_endOf 15 = .ok (.iload_n 3, 1) := by decide +kernel
theorem dX1_endOf_16 : decode cX1_endOf 16 = .ok (.invokevirtual 44, 3) := by decide +kernel
theorem dX1_endOf_19 : decode cX1_endOf 19 = .ok (.ifCond .le 13, 3) := by decide +kernel
theorem dX1_endOf_22 : decode cX1_endOf 22 = .ok (.aload_n 0, 1) := by decide +kernel
theorem dX1_endOf_23 : decode cX1_endOf 23 = .ok (.iload_n 3, 1) := by decide +kernel
theorem dX1_endOf_24 : decode cX1_endOf 24 = .ok (.invokevirtual 44, 3) := by decide +kernel
theorem dX1_endOf_27 : decode cX1_endOf 27 = .ok (.iconst 1, 1) := by decide +kernel
theorem dX1_endOf_28 : decode cX1_endOf 28 = .ok (.isub, 1) := by decide +kernel
theorem dX1_endOf_29 : decode cX1_endOf 29 = .ok (.goto 4, 3) := by decide +kernel
theorem dX1_endOf_32 : decode cX1_endOf 32 = .ok (.iconst (-1), 1) := by decide +kernel
theorem dX1_endOf_33 : decode cX1_endOf 33 = .ok (.ireturn, 1) := by decide +kernel
theorem dX1_stateOf_0 : decode cX1_stateOf 0 = .ok (.iload_n 1, 1) := by decide +kernel
theorem dX1_stateOf_1 : decode cX1_stateOf 1 = .ok (.ifCond .lt 21, 3) := by decide +kernel
theorem dX1_stateOf_4 : decode cX1_stateOf 4 = .ok (.iload_n 1, 1) := by decide +kernel
theorem dX1_stateOf_5 : decode cX1_stateOf 5 = .ok (.aload_n 0, 1) := by decide +kernel
theorem dX1_stateOf_6 : decode cX1_stateOf 6 = .ok (.getfield 27, 3) := by decide +kernel
theorem dX1_stateOf_9 : decode cX1_stateOf 9 = .ok (.arraylength, 1) := by decide +kernel
theorem dX1_stateOf_10 : decode cX1_stateOf 10 = .ok (.if_icmp .ge 12, 3) := by decide +kernel
theorem dX1_stateOf_13 : decode cX1_stateOf 13 = .ok (.aload_n 0, 1) := by decide +kernel
theorem dX1_stateOf_14 : decode cX1_stateOf 14 = .ok (.getfield 27, 3) := by decide +kernel
theorem dX1_stateOf_17 : decode cX1_stateOf 17 = .ok (.iload_n 1, 1) := by decide +kernel
theorem dX1_stateOf_18 : decode cX1_stateOf 18 = .ok (.iaload, 1) := by decide +kernel
theorem dX1_stateOf_19 : decode cX1_stateOf 19 = .ok (.goto 4, 3) := by decide +kernel
theorem dX1_stateOf_22 : decode cX1_stateOf 22 = .ok (.iconst 0, 1) := by decide +kernel
theorem dX1_stateOf_23 : decode cX1_stateOf 23 = .ok (.ireturn, 1) := by decide +kernel
theorem dX1_pairOf_0 : decode cX1_pairOf 0 = .ok (.iload_n 1, 1) := by decide +kernel
theorem dX1_pairOf_1 : decode cX1_pairOf 1 = .ok (.ifCond .lt 20, 3) := by decide +kernel
theorem dX1_pairOf_4 : decode cX1_pairOf 4 = .ok (.iload_n 1, 1) := by decide +kernel
theorem dX1_pairOf_5 : decode cX1_pairOf 5 = .ok (.sipush 257, 3) := by decide +kernel
theorem dX1_pairOf_8 : decode cX1_pairOf 8 = .ok (.if_icmp .ge 13, 3) := by decide +kernel
theorem dX1_pairOf_11 : decode cX1_pairOf 11 = .ok (.aload_n 0, 1) := by decide +kernel
theorem dX1_pairOf_12 : decode cX1_pairOf 12 = .ok (.getfield 13, 3) := by decide +kernel
theorem dX1_pairOf_15 : decode cX1_pairOf 15 = .ok (.iload_n 1, 1) := by decide +kernel
theorem dX1_pairOf_16 : decode cX1_pairOf 16 = .ok (.iaload, 1) := by decide +kernel
theorem dX1_pairOf_17 : decode cX1_pairOf 17 = .ok (.iconst (-1), 1) := by decide +kernel
theorem dX1_pairOf_18 : decode cX1_pairOf 18 = .ok (.if_icmp .ne 7, 3) := by decide +kernel
theorem dX1_pairOf_21 : decode cX1_pairOf 21 = .ok (.iconst (-1), 1) := by decide +kernel
theorem dX1_pairOf_22 : decode cX1_pairOf 22 = .ok (.goto 15, 3) := by decide +kernel
theorem dX1_pairOf_25 : decode cX1_pairOf 25 = .ok (.sipush 256, 3) := by decide +kernel
theorem dX1_pairOf_28 : decode cX1_pairOf 28 = .ok (.aload_n 0, 1) := by decide +kernel
theorem dX1_pairOf_29 : decode cX1_pairOf 29 = .ok (.getfield 13, 3) := by decide +kernel
theorem dX1_pairOf_32 : decode cX1_pairOf 32 = .ok (.iload_n 1, 1) := by decide +kernel
theorem dX1_pairOf_33 : decode cX1_pairOf 33 = .ok (.iaload, 1) := by decide +kernel
theorem dX1_pairOf_34 : decode cX1_pairOf 34 = .ok (.imul, 1) := by decide +kernel
theorem dX1_pairOf_35 : decode cX1_pairOf 35 = .ok (.iload_n 2, 1) := by decide +kernel
theorem dX1_pairOf_36 : decode cX1_pairOf 36 = .ok (.iadd, 1) := by decide +kernel
theorem dX1_pairOf_37 : decode cX1_pairOf 37 = .ok (.ireturn, 1) := by decide +kernel
theorem dX2_halvesFit_0 : decode cX2_halvesFit 0 = .ok (.aload_n 0, 1) := by decide +kernel
theorem dX2_halvesFit_1 : decode cX2_halvesFit 1 = .ok (.invokevirtual 7, 3) := by decide +kernel
theorem dX2_halvesFit_4 : decode cX2_halvesFit 4 = .ok (.bipush 24, 2) := by decide +kernel
theorem dX2_halvesFit_6 : decode cX2_halvesFit 6 = .ok (.if_icmp .lt 17, 3) := by decide +kernel
theorem dX2_halvesFit_9 : decode cX2_halvesFit 9 = .ok (.aload_n 0, 1) := by decide +kernel
theorem dX2_halvesFit_10 : decode cX2_halvesFit 10 = .ok (.invokevirtual 7, 3) := by decide +kernel
theorem dX2_halvesFit_13 : decode cX2_halvesFit 13 = .ok (.iconst 4, 1) := by decide +kernel
theorem dX2_halvesFit_14 : decode cX2_halvesFit 14 = .ok (.aload_n 0, 1) := by decide +kernel
theorem dX2_halvesFit_15 : decode cX2_halvesFit 15 = .ok (.iconst 0, 1) := by decide +kernel
theorem dX2_halvesFit_16 : decode cX2_halvesFit 16 = .ok (.invokevirtual 13, 3) := by decide +kernel
theorem dX2_halvesFit_19 : decode cX2_halvesFit 19 = .ok (.imul, 1) := by decide +kernel
theorem dX2_halvesFit_20 : decode cX2_halvesFit 20 = .ok (.if_icmp .eq 5, 3) := by decide +kernel
theorem dX2_halvesFit_23 : decode cX2_halvesFit 23 = .ok (.iconst 0, 1) := by decide +kernel
theorem dX2_halvesFit_24 : decode cX2_halvesFit 24 = .ok (.ireturn, 1) := by decide +kernel
theorem dX2_halvesFit_25 : decode cX2_halvesFit 25 = .ok (.iconst 0, 1) := by decide +kernel
theorem dX2_halvesFit_26 : decode cX2_halvesFit 26 = .ok (.istore_n 1, 1) := by decide +kernel
theorem dX2_halvesFit_27 : decode cX2_halvesFit 27 = .ok (.iload_n 1, 1) := by decide +kernel
theorem dX2_halvesFit_28 : decode cX2_halvesFit 28 = .ok (.bipush 12, 2) := by decide +kernel
theorem dX2_halvesFit_30 : decode cX2_halvesFit 30 = .ok (.if_icmp .ge 56, 3) := by decide +kernel
theorem dX2_halvesFit_33 : decode cX2_halvesFit 33 = .ok (.iload_n 1, 1) := by decide +kernel
theorem dX2_halvesFit_34 : decode cX2_halvesFit 34 = .ok (.iconst 1, 1) := by decide +kernel
theorem dX2_halvesFit_35 : decode cX2_halvesFit 35 = .ok (.if_icmp .ne 7, 3) := by decide +kernel
theorem dX2_halvesFit_38 : decode cX2_halvesFit 38 = .ok (.iconst 2, 1) := by decide +kernel
theorem dX2_halvesFit_39 : decode cX2_halvesFit 39 = .ok (.goto 19, 3) := by decide +kernel
theorem dX2_halvesFit_42 : decode cX2_halvesFit 42 = .ok (.iload_n 1, 1) := by decide +kernel
theorem dX2_halvesFit_43 : decode cX2_halvesFit 43 = .ok (.iconst 4, 1) := by decide +kernel
theorem dX2_halvesFit_44 : decode cX2_halvesFit 44 = .ok (.if_icmp .lt 13, 3) := by decide +kernel
theorem dX2_halvesFit_47 : decode cX2_halvesFit 47 = .ok (.iload_n 1, 1) := by decide +kernel
theorem dX2_halvesFit_48 : decode cX2_halvesFit 48 = .ok (.bipush 7, 2) := by decide +kernel
theorem dX2_halvesFit_50 : decode cX2_halvesFit 50 = .ok (.if_icmp .gt 7, 3) := by decide +kernel
theorem dX2_halvesFit_53 : decode cX2_halvesFit 53 = .ok (.iconst 1, 1) := by decide +kernel
theorem dX2_halvesFit_54 : decode cX2_halvesFit 54 = .ok (.goto 4, 3) := by decide +kernel
theorem dX2_halvesFit_57 : decode cX2_halvesFit 57 = .ok (.iconst 0, 1) := by decide +kernel
theorem dX2_halvesFit_58 : decode cX2_halvesFit 58 = .ok (.istore_n 2, 1) := by decide +kernel
theorem dX2_halvesFit_59 : decode cX2_halvesFit 59 = .ok (.aload_n 0, 1) := by decide +kernel
theorem dX2_halvesFit_60 : decode cX2_halvesFit 60 = .ok (.iload_n 1, 1) := by decide +kernel
theorem dX2_halvesFit_61 : decode cX2_halvesFit 61 = .ok (.invokevirtual 13, 3) := by decide +kernel
theorem dX2_halvesFit_64 : decode cX2_halvesFit 64 = .ok (.iload_n 2, 1) := by decide +kernel
theorem dX2_halvesFit_65 : decode cX2_halvesFit 65 = .ok (.if_icmp .lt 13, 3) := by decide +kernel
theorem dX2_halvesFit_68 : decode cX2_halvesFit 68 = .ok (.aload_n 0, 1) := by decide +kernel
theorem dX2_halvesFit_69 : decode cX2_halvesFit 69 = .ok (.iload_n 1, 1) := by decide +kernel
theorem dX2_halvesFit_70 : decode cX2_halvesFit 70 = .ok (.invokevirtual 13, 3) := by decide +kernel
theorem dX2_halvesFit_73 : decode cX2_halvesFit 73 = .ok (.ldc 17, 2) := by decide +kernel
theorem dX2_halvesFit_75 : decode cX2_halvesFit 75 = .ok (.if_icmp .lt 5, 3) := by decide +kernel
theorem dX2_halvesFit_78 : decode cX2_halvesFit 78 = .ok (.iconst 0, 1) := by decide +kernel
theorem dX2_halvesFit_79 : decode cX2_halvesFit 79 = .ok (.ireturn, 1) := by decide +kernel
theorem dX2_halvesFit_80 : decode cX2_halvesFit 80 = .ok (.iinc 1 1, 3) := by decide +kernel
theorem dX2_halvesFit_83 : decode cX2_halvesFit 83 = .ok (.goto (-56), 3) := by decide +kernel
theorem dX2_halvesFit_86 : decode cX2_halvesFit 86 = .ok (.aload_n 0, 1) := by decide +kernel
theorem dX2_halvesFit_87 : decode cX2_halvesFit 87 = .ok (.iconst 3, 1) := by decide +kernel
theorem dX2_halvesFit_88 : decode cX2_halvesFit 88 = .ok (.invokevirtual 13, 3) := by decide +kernel
theorem dX2_halvesFit_91 : decode cX2_halvesFit 91 = .ok (.aload_n 0, 1) := by decide +kernel
theorem dX2_halvesFit_92 : decode cX2_halvesFit 92 = .ok (.iconst 2, 1) := by decide +kernel
theorem dX2_halvesFit_93 : decode cX2_halvesFit 93 = .ok (.invokevirtual 13, 3) := by decide +kernel
theorem dX2_halvesFit_96 : decode cX2_halvesFit 96 = .ok (.isub, 1) := by decide +kernel
theorem dX2_halvesFit_97 : decode cX2_halvesFit 97 = .ok (.iconst 1, 1) := by decide +kernel
theorem dX2_halvesFit_98 : decode cX2_halvesFit 98 = .ok (.iadd, 1) := by decide +kernel
theorem dX2_halvesFit_99 : decode cX2_halvesFit 99 = .ok (.istore_n 1, 1) := by decide +kernel
theorem dX2_halvesFit_100 : decode cX2_halvesFit 100 = .ok (.iload_n 1, 1) := by decide +kernel
theorem dX2_halvesFit_101 : decode cX2_halvesFit 101 = .ok (.ifCond .lt 26, 3) := by decide +kernel
theorem dX2_halvesFit_104 : decode cX2_halvesFit 104 = .ok (.aload_n 0, 1) := by decide +kernel
theorem dX2_halvesFit_105 : decode cX2_halvesFit 105 = .ok (.iconst 3, 1) := by decide +kernel
theorem dX2_halvesFit_106 : decode cX2_halvesFit 106 = .ok (.invokevirtual 13, 3) := by decide +kernel
theorem dX2_halvesFit_109 : decode cX2_halvesFit 109 = .ok (.sipush 255, 3) := by decide +kernel
theorem dX2_halvesFit_112 : decode cX2_halvesFit 112 = .ok (.if_icmp .gt 15, 3) := by decide +kernel
theorem dX2_halvesFit_115 : decode cX2_halvesFit 115 = .ok (.aload_n 0, 1) := by decide +kernel
theorem dX2_halvesFit_116 : decode cX2_halvesFit 116 = .ok (.bipush 10, 2) := by decide +kernel
theorem dX2_halvesFit_118 : decode cX2_halvesFit 118 = .ok (.invokevirtual 13, 3) := by decide +kernel
theorem dX2_halvesFit_121 : decode cX2_halvesFit 121 = .ok (.sipush 256, 3) := by decide +kernel
theorem dX2_halvesFit_124 : decode cX2_halvesFit 124 = .ok (.if_icmp .le 5, 3) := by decide +kernel
theorem dX2_halvesFit_127 : decode cX2_halvesFit 127 = .ok (.iconst 0, 1) := by decide +kernel
theorem dX2_halvesFit_128 : decode cX2_halvesFit 128 = .ok (.ireturn, 1) := by decide +kernel
theorem dX2_halvesFit_129 : decode cX2_halvesFit 129 = .ok (.bipush 6, 2) := by decide +kernel
theorem dX2_halvesFit_131 : decode cX2_halvesFit 131 = .ok (.aload_n 0, 1) := by decide +kernel
theorem dX2_halvesFit_132 : decode cX2_halvesFit 132 = .ok (.iconst 1, 1) := by decide +kernel
theorem dX2_halvesFit_133 : decode cX2_halvesFit 133 = .ok (.invokevirtual 13, 3) := by decide +kernel
theorem dX2_halvesFit_136 : decode cX2_halvesFit 136 = .ok (.iadd, 1) := by decide +kernel
theorem dX2_halvesFit_137 : decode cX2_halvesFit 137 = .ok (.iload_n 1, 1) := by decide +kernel
theorem dX2_halvesFit_138 : decode cX2_halvesFit 138 = .ok (.iadd, 1) := by decide +kernel
theorem dX2_halvesFit_139 : decode cX2_halvesFit 139 = .ok (.istore_n 2, 1) := by decide +kernel
theorem dX2_halvesFit_140 : decode cX2_halvesFit 140 = .ok (.iconst 4, 1) := by decide +kernel
theorem dX2_halvesFit_141 : decode cX2_halvesFit 141 = .ok (.istore_n 3, 1) := by decide +kernel
theorem dX2_halvesFit_142 : decode cX2_halvesFit 142 = .ok (.iload_n 3, 1) := by decide +kernel
theorem dX2_halvesFit_143 : decode cX2_halvesFit 143 = .ok (.bipush 12, 2) := by decide +kernel
theorem dX2_halvesFit_145 : decode cX2_halvesFit 145 = .ok (.if_icmp .ge 17, 3) := by decide +kernel
theorem dX2_halvesFit_148 : decode cX2_halvesFit 148 = .ok (.iload_n 2, 1) := by decide +kernel
theorem dX2_halvesFit_149 : decode cX2_halvesFit 149 = .ok (.aload_n 0, 1) := by decide +kernel
theorem dX2_halvesFit_150 : decode cX2_halvesFit 150 = .ok (.iload_n 3, 1) := by decide +kernel
theorem dX2_halvesFit_151 : decode cX2_halvesFit 151 = .ok (.invokevirtual 13, 3) := by decide +kernel
theorem dX2_halvesFit_154 : decode cX2_halvesFit 154 = .ok (.iadd, 1) := by decide +kernel
theorem dX2_halvesFit_155 : decode cX2_halvesFit 155 = .ok (.istore_n 2, 1) := by decide +kernel
theorem dX2_halvesFit_156 : decode cX2_halvesFit 156 = .ok (.iinc 3 1, 3) := by decide +kernel
theorem dX2_halvesFit_159 : decode cX2_halvesFit 159 = .ok (.goto (-17), 3) := by decide +kernel
theorem dX2_halvesFit_162 : decode cX2_halvesFit 162 = .ok (.iload_n 2, 1) := by decide +kernel
theorem dX2_halvesFit_163 : decode cX2_halvesFit 163 = .ok (.aload_n 0, 1) := by decide +kernel
theorem dX2_halvesFit_164 : decode cX2_halvesFit 164 = .ok (.iconst 0, 1) := by decide +kernel
theorem dX2_halvesFit_165 : decode cX2_halvesFit 165 = .ok (.invokevirtual 13, 3) := by decide +kernel
theorem dX2_halvesFit_168 : decode cX2_halvesFit 168 = .ok (.if_icmp .ne 7, 3) := by decide +kernel
theorem dX2_halvesFit_171 : decode cX2_halvesFit 171 = .ok (.iconst 1, 1) := by decide +kernel
theorem dX2_halvesFit_172 : decode cX2_halvesFit 172 = .ok (.goto 4, 3) := by decide +kernel
theorem dX2_halvesFit_175 : decode cX2_halvesFit 175 = .ok (.iconst 0, 1) := by decide +kernel
theorem dX2_halvesFit_176 : decode cX2_halvesFit 176 = .ok (.ireturn, 1) := by decide +kernel
theorem dX2_faultOf_0 : decode cX2_faultOf 0 = .ok (.aload_n 0, 1) := by decide +kernel
theorem dX2_faultOf_1 : decode cX2_faultOf 1 = .ok (.ifnonnull 5, 3) := by decide +kernel
theorem dX2_faultOf_4 : decode cX2_faultOf 4 = .ok (.iconst 1, 1) := by decide +kernel
theorem dX2_faultOf_5 : decode cX2_faultOf 5 = .ok (.ireturn, 1) := by decide +kernel
theorem dX2_faultOf_6 : decode cX2_faultOf 6 = .ok (.aload_n 0, 1) := by decide +kernel
theorem dX2_faultOf_7 : decode cX2_faultOf 7 = .ok (.invokevirtual 18, 3) := by decide +kernel
theorem dX2_faultOf_10 : decode cX2_faultOf 10 = .ok (.ldc 25, 2) := by decide +kernel
theorem dX2_faultOf_12 : decode cX2_faultOf 12 = .ok (.if_icmp .ge 5, 3) := by decide +kernel
theorem dX2_faultOf_15 : decode cX2_faultOf 15 = .ok (.iconst 2, 1) := by decide +kernel
theorem dX2_faultOf_16 : decode cX2_faultOf 16 = .ok (.ireturn, 1) := by decide +kernel
theorem dX2_faultOf_17 : decode cX2_faultOf 17 = .ok (.aload_n 0, 1) := by decide +kernel
theorem dX2_faultOf_18 : decode cX2_faultOf 18 = .ok (.invokestatic 26, 3) := by decide +kernel
theorem dX2_faultOf_21 : decode cX2_faultOf 21 = .ok (.ifCond .ne 5, 3) := by decide +kernel
theorem dX2_faultOf_24 : decode cX2_faultOf 24 = .ok (.iconst 3, 1) := by decide +kernel
theorem dX2_faultOf_25 : decode cX2_faultOf 25 = .ok (.ireturn, 1) := by decide +kernel
theorem dX2_faultOf_26 : decode cX2_faultOf 26 = .ok (.aload_n 0, 1) := by decide +kernel
theorem dX2_faultOf_27 : decode cX2_faultOf 27 = .ok (.invokestatic 30, 3) := by decide +kernel
theorem dX2_faultOf_30 : decode cX2_faultOf 30 = .ok (.ifCond .ne 5, 3) := by decide +kernel
theorem dX2_faultOf_33 : decode cX2_faultOf 33 = .ok (.iconst 4, 1) := by decide +kernel
theorem dX2_faultOf_34 : decode cX2_faultOf 34 = .ok (.ireturn, 1) := by decide +kernel
theorem dX2_faultOf_35 : decode cX2_faultOf 35 = .ok (.aload_n 0, 1) := by decide +kernel
theorem dX2_faultOf_36 : decode cX2_faultOf 36 = .ok (.invokestatic 33, 3) := by decide +kernel
theorem dX2_faultOf_39 : decode cX2_faultOf 39 = .ok (.ifCond .ne 5, 3) := by decide +kernel
theorem dX2_faultOf_42 : decode cX2_faultOf 42 = .ok (.iconst 5, 1) := by decide +kernel
theorem dX2_faultOf_43 : decode cX2_faultOf 43 = .ok (.ireturn, 1) := by decide +kernel
theorem dX2_faultOf_44 : decode cX2_faultOf 44 = .ok (.aload_n 0, 1) := by decide +kernel
theorem dX2_faultOf_45 : decode cX2_faultOf 45 = .ok (.invokestatic 36, 3) := by decide +kernel
theorem dX2_faultOf_48 : decode cX2_faultOf 48 = .ok (.ifCond .eq 7, 3) := by decide +kernel
theorem dX2_faultOf_51 : decode cX2_faultOf 51 = .ok (.iconst 0, 1) := by decide +kernel
theorem dX2_faultOf_52 : decode cX2_faultOf 52 = .ok (.goto 5, 3) := by decide +kernel
theorem dX2_faultOf_55 : decode cX2_faultOf 55 = .ok (.bipush 6, 2) := by decide +kernel
theorem dX2_faultOf_57 : decode cX2_faultOf 57 = .ok (.ireturn, 1) := by decide +kernel
theorem dX2_infosFit_0 : decode cX2_infosFit 0 = .ok (.iconst 0, 1) := by decide +kernel
theorem dX2_infosFit_1 : decode cX2_infosFit 1 = .ok (.istore_n 1, 1) := by decide +kernel
theorem dX2_infosFit_2 : decode cX2_infosFit 2 = .ok (.iload_n 1, 1) := by decide +kernel
theorem dX2_infosFit_3 : decode cX2_infosFit 3 = .ok (.sipush 256, 3) := by decide +kernel
theorem dX2_infosFit_6 : decode cX2_infosFit 6 = .ok (.if_icmp .ge 35, 3) := by decide +kernel
theorem dX2_infosFit_9 : decode cX2_infosFit 9 = .ok (.aload_n 0, 1) := by decide +kernel
theorem dX2_infosFit_10 : decode cX2_infosFit 10 = .ok (.iload_n 1, 1) := by decide +kernel
theorem dX2_infosFit_11 : decode cX2_infosFit 11 = .ok (.invokevirtual 39, 3) := by decide +kernel
theorem dX2_infosFit_14 : decode cX2_infosFit 14 = .ok (.ifCond .eq 21, 3) := by decide +kernel
theorem dX2_infosFit_17 : decode cX2_infosFit 17 = .ok (.aload_n 0, 1) := by decide +kernel
theorem dX2_infosFit_18 : decode cX2_infosFit 18 = .ok (.iload_n 1, 1) := by decide +kernel
theorem dX2_infosFit_19 : decode cX2_infosFit 19 = .ok (.invokestatic 43, 3) := by decide +kernel
theorem dX2_infosFit_22 : decode cX2_infosFit 22 = .ok (.ifCond .eq 11, 3) := by decide +kernel
theorem dX2_infosFit_25 : decode cX2_infosFit 25 = .ok (.aload_n 0, 1) := by decide +kernel
theorem dX2_infosFit_26 : decode cX2_infosFit 26 = .ok (.iload_n 1, 1) := by decide +kernel
theorem dX2_infosFit_27 : decode cX2_infosFit 27 = .ok (.invokestatic 47, 3) := by decide +kernel
theorem dX2_infosFit_30 : decode cX2_infosFit 30 = .ok (.ifCond .ne 5, 3) := by decide +kernel
theorem dX2_infosFit_33 : decode cX2_infosFit 33 = .ok (.iconst 0, 1) := by decide +kernel
theorem dX2_infosFit_34 : decode cX2_infosFit 34 = .ok (.ireturn, 1) := by decide +kernel
theorem dX2_infosFit_35 : decode cX2_infosFit 35 = .ok (.iinc 1 1, 3) := by decide +kernel
theorem dX2_infosFit_38 : decode cX2_infosFit 38 = .ok (.goto (-36), 3) := by decide +kernel
theorem dX2_infosFit_41 : decode cX2_infosFit 41 = .ok (.iconst 1, 1) := by decide +kernel
theorem dX2_infosFit_42 : decode cX2_infosFit 42 = .ok (.ireturn, 1) := by decide +kernel
theorem dX2_placesFit_0 : decode cX2_placesFit 0 = .ok (.iconst 0, 1) := by decide +kernel
theorem dX2_placesFit_1 : decode cX2_placesFit 1 = .ok (.istore_n 2, 1) := by decide +kernel
theorem dX2_placesFit_2 : decode cX2_placesFit 2 = .ok (.iload_n 2, 1) := by decide +kernel
theorem dX2_placesFit_3 : decode cX2_placesFit 3 = .ok (.iconst 4, 1) := by decide +kernel
theorem dX2_placesFit_4 : decode cX2_placesFit 4 = .ok (.if_icmp .ge 27, 3) := by decide +kernel
theorem dX2_placesFit_7 : decode cX2_placesFit 7 = .ok (.aload_n 0, 1) := by decide +kernel
theorem dX2_placesFit_8 : decode cX2_placesFit 8 = .ok (.iload_n 1, 1) := by decide +kernel
theorem dX2_placesFit_9 : decode cX2_placesFit 9 = .ok (.iload_n 2, 1) := by decide +kernel
theorem dX2_placesFit_10 : decode cX2_placesFit 10 = .ok (.invokevirtual 50, 3) := by decide +kernel
theorem dX2_placesFit_13 : decode cX2_placesFit 13 = .ok (.aload_n 0, 1) := by decide +kernel
theorem dX2_placesFit_14 : decode cX2_placesFit 14 = .ok (.iconst 2, 1) := by decide +kernel
theorem dX2_placesFit_15 : decode cX2_placesFit 15 = .ok (.iload_n 2, 1) := by decide +kernel
theorem dX2_placesFit_16 : decode cX2_placesFit 16 = .ok (.iadd, 1) := by decide +kernel
theorem dX2_placesFit_17 : decode cX2_placesFit 17 = .ok (.invokevirtual 54, 3) := by decide +kernel
theorem dX2_placesFit_20 : decode cX2_placesFit 20 = .ok (.if_icmp .lt 5, 3) := by decide +kernel
theorem dX2_placesFit_23 : decode cX2_placesFit 23 = .ok (.iconst 0, 1) := by decide +kernel
theorem dX2_placesFit_24 : decode cX2_placesFit 24 = .ok (.ireturn, 1) := by decide +kernel
theorem dX2_placesFit_25 : decode cX2_placesFit 25 = .ok (.iinc 2 1, 3) := by decide +kernel
theorem dX2_placesFit_28 : decode cX2_placesFit 28 = .ok (.goto (-26), 3) := by decide +kernel
theorem dX2_placesFit_31 : decode cX2_placesFit 31 = .ok (.iconst 1, 1) := by decide +kernel
theorem dX2_placesFit_32 : decode cX2_placesFit 32 = .ok (.ireturn, 1) := by decide +kernel
theorem dX2_tagFits_0 : decode cX2_tagFits 0 = .ok (.aload_n 0, 1) := by decide +kernel
theorem dX2_tagFits_1 : decode cX2_tagFits 1 = .ok (.iload_n 1, 1) := by decide +kernel
theorem dX2_tagFits_2 : decode cX2_tagFits 2 = .ok (.invokevirtual 57, 3) := by decide +kernel
theorem dX2_tagFits_5 : decode cX2_tagFits 5 = .ok (.istore_n 2, 1) := by decide +kernel
theorem dX2_tagFits_6 : decode cX2_tagFits 6 = .ok (.aload_n 0, 1) := by decide +kernel
theorem dX2_tagFits_7 : decode cX2_tagFits 7 = .ok (.iload_n 1, 1) := by decide +kernel
theorem dX2_tagFits_8 : decode cX2_tagFits 8 = .ok (.invokevirtual 60, 3) := by decide +kernel
theorem dX2_tagFits_11 : decode cX2_tagFits 11 = .ok (.tableswitch 79 1 3 #[25, 41, 63], 25) := by decide +kernel
theorem dX2_tagFits_36 : decode cX2_tagFits 36 = .ok (.iload_n 2, 1) := by decide +kernel
theorem dX2_tagFits_37 : decode cX2_tagFits 37 = .ok (.aload_n 0, 1) := by decide +kernel
theorem dX2_tagFits_38 : decode cX2_tagFits 38 = .ok (.bipush 6, 2) := by decide +kernel
theorem dX2_tagFits_40 : decode cX2_tagFits 40 = .ok (.invokevirtual 54, 3) := by decide +kernel
theorem dX2_tagFits_43 : decode cX2_tagFits 43 = .ok (.if_icmp .ge 7, 3) := by decide +kernel
theorem dX2_tagFits_46 : decode cX2_tagFits 46 = .ok (.iconst 1, 1) := by decide +kernel
theorem dX2_tagFits_47 : decode cX2_tagFits 47 = .ok (.goto 4, 3) := by decide +kernel
theorem dX2_tagFits_50 : decode cX2_tagFits 50 = .ok (.iconst 0, 1) := by decide +kernel
theorem dX2_tagFits_51 : decode cX2_tagFits 51 = .ok (.ireturn, 1) := by decide +kernel
theorem dX2_tagFits_52 : decode cX2_tagFits 52 = .ok (.aload_n 0, 1) := by decide +kernel
theorem dX2_tagFits_53 : decode cX2_tagFits 53 = .ok (.iload_n 2, 1) := by decide +kernel
theorem dX2_tagFits_54 : decode cX2_tagFits 54 = .ok (.invokevirtual 39, 3) := by decide +kernel
theorem dX2_tagFits_57 : decode cX2_tagFits 57 = .ok (.ifCond .eq 15, 3) := by decide +kernel
theorem dX2_tagFits_60 : decode cX2_tagFits 60 = .ok (.aload_n 0, 1) := by decide +kernel
theorem dX2_tagFits_61 : decode cX2_tagFits 61 = .ok (.iload_n 1, 1) := by decide +kernel
theorem dX2_tagFits_62 : decode cX2_tagFits 62 = .ok (.invokestatic 63, 3) := by decide +kernel
theorem dX2_tagFits_65 : decode cX2_tagFits 65 = .ok (.ifCond .eq 7, 3) := by decide +kernel
theorem dX2_tagFits_68 : decode cX2_tagFits 68 = .ok (.iconst 1, 1) := by decide +kernel
theorem dX2_tagFits_69 : decode cX2_tagFits 69 = .ok (.goto 4, 3) := by decide +kernel
theorem dX2_tagFits_72 : decode cX2_tagFits 72 = .ok (.iconst 0, 1) := by decide +kernel
theorem dX2_tagFits_73 : decode cX2_tagFits 73 = .ok (.ireturn, 1) := by decide +kernel
theorem dX2_tagFits_74 : decode cX2_tagFits 74 = .ok (.iload_n 2, 1) := by decide +kernel
theorem dX2_tagFits_75 : decode cX2_tagFits 75 = .ok (.aload_n 0, 1) := by decide +kernel
theorem dX2_tagFits_76 : decode cX2_tagFits 76 = .ok (.bipush 8, 2) := by decide +kernel
theorem dX2_tagFits_78 : decode cX2_tagFits 78 = .ok (.invokevirtual 54, 3) := by decide +kernel
theorem dX2_tagFits_81 : decode cX2_tagFits 81 = .ok (.if_icmp .ge 7, 3) := by decide +kernel
theorem dX2_tagFits_84 : decode cX2_tagFits 84 = .ok (.iconst 1, 1) := by decide +kernel
theorem dX2_tagFits_85 : decode cX2_tagFits 85 = .ok (.goto 4, 3) := by decide +kernel
theorem dX2_tagFits_88 : decode cX2_tagFits 88 = .ok (.iconst 0, 1) := by decide +kernel
theorem dX2_tagFits_89 : decode cX2_tagFits 89 = .ok (.ireturn, 1) := by decide +kernel
theorem dX2_tagFits_90 : decode cX2_tagFits 90 = .ok (.iconst 1, 1) := by decide +kernel
theorem dX2_tagFits_91 : decode cX2_tagFits 91 = .ok (.ireturn, 1) := by decide +kernel
theorem dX2_chainEnds_0 : decode cX2_chainEnds 0 = .ok (.iload_n 1, 1) := by decide +kernel
theorem dX2_chainEnds_1 : decode cX2_chainEnds 1 = .ok (.istore_n 2, 1) := by decide +kernel
theorem dX2_chainEnds_2 : decode cX2_chainEnds 2 = .ok (.iconst 0, 1) := by decide +kernel
theorem dX2_chainEnds_3 : decode cX2_chainEnds 3 = .ok (.istore_n 3, 1) := by decide +kernel
theorem dX2_chainEnds_4 : decode cX2_chainEnds 4 = .ok (.iload_n 3, 1) := by decide +kernel
theorem dX2_chainEnds_5 : decode cX2_chainEnds 5 = .ok (.sipush 256, 3) := by decide +kernel
theorem dX2_chainEnds_8 : decode cX2_chainEnds 8 = .ok (.if_icmp .ge 33, 3) := by decide +kernel
theorem dX2_chainEnds_11 : decode cX2_chainEnds 11 = .ok (.aload_n 0, 1) := by decide +kernel
theorem dX2_chainEnds_12 : decode cX2_chainEnds 12 = .ok (.iload_n 2, 1) := by decide +kernel
theorem dX2_chainEnds_13 : decode cX2_chainEnds 13 = .ok (.invokevirtual 60, 3) := by decide +kernel
theorem dX2_chainEnds_16 : decode cX2_chainEnds 16 = .ok (.iconst 2, 1) := by decide +kernel
theorem dX2_chainEnds_17 : decode cX2_chainEnds 17 = .ok (.if_icmp .eq 5, 3) := by decide +kernel
theorem dX2_chainEnds_20 : decode cX2_chainEnds 20 = .ok (.iconst 1, 1) := by decide +kernel
theorem dX2_chainEnds_21 : decode cX2_chainEnds 21 = .ok (.ireturn, 1) := by decide +kernel
theorem dX2_chainEnds_22 : decode cX2_chainEnds 22 = .ok (.aload_n 0, 1) := by decide +kernel
theorem dX2_chainEnds_23 : decode cX2_chainEnds 23 = .ok (.iload_n 2, 1) := by decide +kernel
theorem dX2_chainEnds_24 : decode cX2_chainEnds 24 = .ok (.invokevirtual 57, 3) := by decide +kernel
theorem dX2_chainEnds_27 : decode cX2_chainEnds 27 = .ok (.istore_n 2, 1) := by decide +kernel
theorem dX2_chainEnds_28 : decode cX2_chainEnds 28 = .ok (.iload_n 2, 1) := by decide +kernel
theorem dX2_chainEnds_29 : decode cX2_chainEnds 29 = .ok (.iload_n 1, 1) := by decide +kernel
theorem dX2_chainEnds_30 : decode cX2_chainEnds 30 = .ok (.if_icmp .ne 5, 3) := by decide +kernel
theorem dX2_chainEnds_33 : decode cX2_chainEnds 33 = .ok (.iconst 0, 1) := by decide +kernel
theorem dX2_chainEnds_34 : decode cX2_chainEnds 34 = .ok (.ireturn, 1) := by decide +kernel
theorem dX2_chainEnds_35 : decode cX2_chainEnds 35 = .ok (.iinc 3 1, 3) := by decide +kernel
theorem dX2_chainEnds_38 : decode cX2_chainEnds 38 = .ok (.goto (-34), 3) := by decide +kernel
theorem dX2_chainEnds_41 : decode cX2_chainEnds 41 = .ok (.iconst 0, 1) := by decide +kernel
theorem dX2_chainEnds_42 : decode cX2_chainEnds 42 = .ok (.ireturn, 1) := by decide +kernel
theorem dX2_fractionsFit_0 : decode cX2_fractionsFit 0 = .ok (.iconst 2, 1) := by decide +kernel
theorem dX2_fractionsFit_1 : decode cX2_fractionsFit 1 = .ok (.istore_n 1, 1) := by decide +kernel
theorem dX2_fractionsFit_2 : decode cX2_fractionsFit 2 = .ok (.iload_n 1, 1) := by decide +kernel
theorem dX2_fractionsFit_3 : decode cX2_fractionsFit 3 = .ok (.iconst 5, 1) := by decide +kernel
theorem dX2_fractionsFit_4 : decode cX2_fractionsFit 4 = .ok (.if_icmp .gt 29, 3) := by decide +kernel
theorem dX2_fractionsFit_7 : decode cX2_fractionsFit 7 = .ok (.aload_n 0, 1) := by decide +kernel
