theorem dX6_load_113 : decode cX6_load 113 = .ok (.aload_n 0, 1) := by decide +kernel
theorem dX6_load_114 : decode cX6_load 114 = .ok (.getfield 45, 3) := by decide +kernel
theorem dX6_load_117 : decode cX6_load 117 = .ok (.aload_n 0, 1) := by decide +kernel
theorem dX6_load_118 : decode cX6_load 118 = .ok (.getfield 50, 3) := by decide +kernel
theorem dX6_load_121 : decode cX6_load 121 = .ok (.iload_n 2, 1) := by decide +kernel
theorem dX6_load_122 : decode cX6_load 122 = .ok (.iadd, 1) := by decide +kernel
theorem dX6_load_123 : decode cX6_load 123 = .ok (.iastore, 1) := by decide +kernel
theorem dX6_load_124 : decode cX6_load 124 = .ok (.aload_n 0, 1) := by decide +kernel
theorem dX6_load_125 : decode cX6_load 125 = .ok (.getfield 45, 3) := by decide +kernel
theorem dX6_load_128 : decode cX6_load 128 = .ok (.iconst 1, 1) := by decide +kernel
theorem dX6_load_129 : decode cX6_load 129 = .ok (.isub, 1) := by decide +kernel
theorem dX6_load_130 : decode cX6_load 130 = .ok (.ireturn, 1) := by decide +kernel
theorem dX6_fault_0 : decode cX6_fault 0 = .ok (.aload_n 0, 1) := by decide +kernel
theorem dX6_fault_1 : decode cX6_fault 1 = .ok (.iconst 0, 1) := by decide +kernel
theorem dX6_fault_2 : decode cX6_fault 2 = .ok (.putfield 37, 3) := by decide +kernel
theorem dX6_fault_5 : decode cX6_fault 5 = .ok (.aload_n 0, 1) := by decide +kernel
theorem dX6_fault_6 : decode cX6_fault 6 = .ok (.getfield 133, 3) := by decide +kernel
theorem dX6_fault_9 : decode cX6_fault 9 = .ok (.ireturn, 1) := by decide +kernel
theorem dX6_choose_0 : decode cX6_choose 0 = .ok (.iload_n 1, 1) := by decide +kernel
theorem dX6_choose_1 : decode cX6_choose 1 = .ok (.ifCond .lt 15, 3) := by decide +kernel
theorem dX6_choose_4 : decode cX6_choose 4 = .ok (.iload_n 1, 1) := by decide +kernel
theorem dX6_choose_5 : decode cX6_choose 5 = .ok (.aload_n 0, 1) := by decide +kernel
theorem dX6_choose_6 : decode cX6_choose 6 = .ok (.getfield 45, 3) := by decide +kernel
theorem dX6_choose_9 : decode cX6_choose 9 = .ok (.if_icmp .ge 7, 3) := by decide +kernel
theorem dX6_choose_12 : decode cX6_choose 12 = .ok (.iconst 1, 1) := by decide +kernel
theorem dX6_choose_13 : decode cX6_choose 13 = .ok (.goto 4, 3) := by decide +kernel
theorem dX6_choose_16 : decode cX6_choose 16 = .ok (.iconst 0, 1) := by decide +kernel
theorem dX6_choose_17 : decode cX6_choose 17 = .ok (.istore_n 2, 1) := by decide +kernel
theorem dX6_choose_18 : decode cX6_choose 18 = .ok (.aload_n 0, 1) := by decide +kernel
theorem dX6_choose_19 : decode cX6_choose 19 = .ok (.iload_n 2, 1) := by decide +kernel
theorem dX6_choose_20 : decode cX6_choose 20 = .ok (.ifCond .eq 12, 3) := by decide +kernel
theorem dX6_choose_23 : decode cX6_choose 23 = .ok (.aload_n 0, 1) := by decide +kernel
theorem dX6_choose_24 : decode cX6_choose 24 = .ok (.getfield 14, 3) := by decide +kernel
theorem dX6_choose_27 : decode cX6_choose 27 = .ok (.iload_n 1, 1) := by decide +kernel
theorem dX6_choose_28 : decode cX6_choose 28 = .ok (.iaload, 1) := by decide +kernel
theorem dX6_choose_29 : decode cX6_choose 29 = .ok (.goto 4, 3) := by decide +kernel
theorem dX6_choose_32 : decode cX6_choose 32 = .ok (.iconst 0, 1) := by decide +kernel
theorem dX6_choose_33 : decode cX6_choose 33 = .ok (.putfield 50, 3) := by decide +kernel
theorem dX6_choose_36 : decode cX6_choose 36 = .ok (.iload_n 2, 1) := by decide +kernel
theorem dX6_choose_37 : decode cX6_choose 37 = .ok (.ireturn, 1) := by decide +kernel
theorem dX6_scaled_0 : decode cX6_scaled 0 = .ok (.aload_n 0, 1) := by decide +kernel
theorem dX6_scaled_1 : decode cX6_scaled 1 = .ok (.aload_n 0, 1) := by decide +kernel
theorem dX6_scaled_2 : decode cX6_scaled 2 = .ok (.iload_n 2, 1) := by decide +kernel
theorem dX6_scaled_3 : decode cX6_scaled 3 = .ok (.invokevirtual 64, 3) := by decide +kernel
theorem dX6_scaled_6 : decode cX6_scaled 6 = .ok (.iload_n 3, 1) := by decide +kernel
theorem dX6_scaled_7 : decode cX6_scaled 7 = .ok (.iadd, 1) := by decide +kernel
theorem dX6_scaled_8 : decode cX6_scaled 8 = .ok (.invokevirtual 83, 3) := by decide +kernel
theorem dX6_scaled_11 : decode cX6_scaled 11 = .ok (.i2l, 1) := by decide +kernel
theorem dX6_scaled_12 : decode cX6_scaled 12 = .ok (.aload_n 0, 1) := by decide +kernel
theorem dX6_scaled_13 : decode cX6_scaled 13 = .ok (.getfield 17, 3) := by decide +kernel
theorem dX6_scaled_16 : decode cX6_scaled 16 = .ok (.iload_n 1, 1) := by decide +kernel
theorem dX6_scaled_17 : decode cX6_scaled 17 = .ok (.iaload, 1) := by decide +kernel
theorem dX6_scaled_18 : decode cX6_scaled 18 = .ok (.i2l, 1) := by decide +kernel
theorem dX6_scaled_19 : decode cX6_scaled 19 = .ok (.lmul, 1) := by decide +kernel
theorem dX6_scaled_20 : decode cX6_scaled 20 = .ok (.bipush 20, 2) := by decide +kernel
theorem dX6_scaled_22 : decode cX6_scaled 22 = .ok (.lshr, 1) := by decide +kernel
theorem dX6_scaled_23 : decode cX6_scaled 23 = .ok (.l2i, 1) := by decide +kernel
theorem dX6_scaled_24 : decode cX6_scaled 24 = .ok (.ireturn, 1) := by decide +kernel
theorem dX6_metricOf_0 : decode cX6_metricOf 0 = .ok (.aload_n 0, 1) := by decide +kernel
theorem dX6_metricOf_1 : decode cX6_metricOf 1 = .ok (.iload_n 2, 1) := by decide +kernel
theorem dX6_metricOf_2 : decode cX6_metricOf 2 = .ok (.iconst 1, 1) := by decide +kernel
theorem dX6_metricOf_3 : decode cX6_metricOf 3 = .ok (.invokevirtual 71, 3) := by decide +kernel
theorem dX6_metricOf_6 : decode cX6_metricOf 6 = .ok (.istore 4, 2) := by decide +kernel
theorem dX6_metricOf_8 : decode cX6_metricOf 8 = .ok (.aload_n 0, 1) := by decide +kernel
theorem dX6_metricOf_9 : decode cX6_metricOf 9 = .ok (.iload_n 2, 1) := by decide +kernel
theorem dX6_metricOf_10 : decode cX6_metricOf 10 = .ok (.iconst 2, 1) := by decide +kernel
theorem dX6_metricOf_11 : decode cX6_metricOf 11 = .ok (.invokevirtual 71, 3) := by decide +kernel
theorem dX6_metricOf_14 : decode cX6_metricOf 14 = .ok (.istore 5, 2) := by decide +kernel
theorem dX6_metricOf_16 : decode cX6_metricOf 16 = .ok (.iload_n 3, 1) := by decide +kernel
theorem dX6_metricOf_17 : decode cX6_metricOf 17 = .ok (.ifCond .ne 18, 3) := by decide +kernel
theorem dX6_metricOf_20 : decode cX6_metricOf 20 = .ok (.aload_n 0, 1) := by decide +kernel
theorem dX6_metricOf_21 : decode cX6_metricOf 21 = .ok (.iload_n 1, 1) := by decide +kernel
theorem dX6_metricOf_22 : decode cX6_metricOf 22 = .ok (.iconst 2, 1) := by decide +kernel
theorem dX6_metricOf_23 : decode cX6_metricOf 23 = .ok (.aload_n 0, 1) := by decide +kernel
theorem dX6_metricOf_24 : decode cX6_metricOf 24 = .ok (.iload_n 2, 1) := by decide +kernel
theorem dX6_metricOf_25 : decode cX6_metricOf 25 = .ok (.iconst 0, 1) := by decide +kernel
theorem dX6_metricOf_26 : decode cX6_metricOf 26 = .ok (.invokevirtual 71, 3) := by decide +kernel
theorem dX6_metricOf_29 : decode cX6_metricOf 29 = .ok (.invokevirtual 136, 3) := by decide +kernel
theorem dX6_metricOf_32 : decode cX6_metricOf 32 = .ok (.goto 88, 3) := by decide +kernel
theorem dX6_metricOf_35 : decode cX6_metricOf 35 = .ok (.iload_n 3, 1) := by decide +kernel
theorem dX6_metricOf_36 : decode cX6_metricOf 36 = .ok (.iconst 1, 1) := by decide +kernel
theorem dX6_metricOf_37 : decode cX6_metricOf 37 = .ok (.if_icmp .ne 17, 3) := by decide +kernel
theorem dX6_metricOf_40 : decode cX6_metricOf 40 = .ok (.aload_n 0, 1) := by decide +kernel
theorem dX6_metricOf_41 : decode cX6_metricOf 41 = .ok (.iload_n 1, 1) := by decide +kernel
theorem dX6_metricOf_42 : decode cX6_metricOf 42 = .ok (.iconst 3, 1) := by decide +kernel
theorem dX6_metricOf_43 : decode cX6_metricOf 43 = .ok (.iload 4, 2) := by decide +kernel
theorem dX6_metricOf_45 : decode cX6_metricOf 45 = .ok (.bipush 16, 2) := by decide +kernel
theorem dX6_metricOf_47 : decode cX6_metricOf 47 = .ok (.idiv, 1) := by decide +kernel
theorem dX6_metricOf_48 : decode cX6_metricOf 48 = .ok (.invokevirtual 136, 3) := by decide +kernel
theorem dX6_metricOf_51 : decode cX6_metricOf 51 = .ok (.goto 69, 3) := by decide +kernel
theorem dX6_metricOf_54 : decode cX6_metricOf 54 = .ok (.iload_n 3, 1) := by decide +kernel
theorem dX6_metricOf_55 : decode cX6_metricOf 55 = .ok (.iconst 2, 1) := by decide +kernel
theorem dX6_metricOf_56 : decode cX6_metricOf 56 = .ok (.if_icmp .ne 17, 3) := by decide +kernel
theorem dX6_metricOf_59 : decode cX6_metricOf 59 = .ok (.aload_n 0, 1) := by decide +kernel
theorem dX6_metricOf_60 : decode cX6_metricOf 60 = .ok (.iload_n 1, 1) := by decide +kernel
theorem dX6_metricOf_61 : decode cX6_metricOf 61 = .ok (.iconst 4, 1) := by decide +kernel
theorem dX6_metricOf_62 : decode cX6_metricOf 62 = .ok (.iload 4, 2) := by decide +kernel
theorem dX6_metricOf_64 : decode cX6_metricOf 64 = .ok (.bipush 16, 2) := by decide +kernel
theorem dX6_metricOf_66 : decode cX6_metricOf 66 = .ok (.irem, 1) := by decide +kernel
theorem dX6_metricOf_67 : decode cX6_metricOf 67 = .ok (.invokevirtual 136, 3) := by decide +kernel
theorem dX6_metricOf_70 : decode cX6_metricOf 70 = .ok (.goto 50, 3) := by decide +kernel
theorem dX6_metricOf_73 : decode cX6_metricOf 73 = .ok (.iload_n 3, 1) := by decide +kernel
theorem dX6_metricOf_74 : decode cX6_metricOf 74 = .ok (.iconst 3, 1) := by decide +kernel
theorem dX6_metricOf_75 : decode cX6_metricOf 75 = .ok (.if_icmp .ne 16, 3) := by decide +kernel
theorem dX6_metricOf_78 : decode cX6_metricOf 78 = .ok (.aload_n 0, 1) := by decide +kernel
theorem dX6_metricOf_79 : decode cX6_metricOf 79 = .ok (.iload_n 1, 1) := by decide +kernel
theorem dX6_metricOf_80 : decode cX6_metricOf 80 = .ok (.iconst 5, 1) := by decide +kernel
theorem dX6_metricOf_81 : decode cX6_metricOf 81 = .ok (.iload 5, 2) := by decide +kernel
theorem dX6_metricOf_83 : decode cX6_metricOf 83 = .ok (.iconst 4, 1) := by decide +kernel
theorem dX6_metricOf_84 : decode cX6_metricOf 84 = .ok (.idiv, 1) := by decide +kernel
theorem dX6_metricOf_85 : decode cX6_metricOf 85 = .ok (.invokevirtual 136, 3) := by decide +kernel
theorem dX6_metricOf_88 : decode cX6_metricOf 88 = .ok (.goto 32, 3) := by decide +kernel
theorem dX6_metricOf_91 : decode cX6_metricOf 91 = .ok (.iload_n 3, 1) := by decide +kernel
theorem dX6_metricOf_92 : decode cX6_metricOf 92 = .ok (.iconst 4, 1) := by decide +kernel
theorem dX6_metricOf_93 : decode cX6_metricOf 93 = .ok (.if_icmp .ne 10, 3) := by decide +kernel
theorem dX6_metricOf_96 : decode cX6_metricOf 96 = .ok (.iload 5, 2) := by decide +kernel
theorem dX6_metricOf_98 : decode cX6_metricOf 98 = .ok (.iconst 4, 1) := by decide +kernel
theorem dX6_metricOf_99 : decode cX6_metricOf 99 = .ok (.irem, 1) := by decide +kernel
theorem dX6_metricOf_100 : decode cX6_metricOf 100 = .ok (.goto 20, 3) := by decide +kernel
theorem dX6_metricOf_103 : decode cX6_metricOf 103 = .ok (.iload 5, 2) := by decide +kernel
theorem dX6_metricOf_105 : decode cX6_metricOf 105 = .ok (.iconst 4, 1) := by decide +kernel
theorem dX6_metricOf_106 : decode cX6_metricOf 106 = .ok (.irem, 1) := by decide +kernel
theorem dX6_metricOf_107 : decode cX6_metricOf 107 = .ok (.ifCond .ne 7, 3) := by decide +kernel
theorem dX6_metricOf_110 : decode cX6_metricOf 110 = .ok (.iconst 0, 1) := by decide +kernel
theorem dX6_metricOf_111 : decode cX6_metricOf 111 = .ok (.goto 9, 3) := by decide +kernel
theorem dX6_metricOf_114 : decode cX6_metricOf 114 = .ok (.aload_n 0, 1) := by decide +kernel
theorem dX6_metricOf_115 : decode cX6_metricOf 115 = .ok (.iload_n 2, 1) := by decide +kernel
theorem dX6_metricOf_116 : decode cX6_metricOf 116 = .ok (.iconst 3, 1) := by decide +kernel
theorem dX6_metricOf_117 : decode cX6_metricOf 117 = .ok (.invokevirtual 71, 3) := by decide +kernel
theorem dX6_metricOf_120 : decode cX6_metricOf 120 = .ok (.ireturn, 1) := by decide +kernel
theorem dX6_metric_0 : decode cX6_metric 0 = .ok (.aload_n 0, 1) := by decide +kernel
theorem dX6_metric_1 : decode cX6_metric 1 = .ok (.iload_n 1, 1) := by decide +kernel
theorem dX6_metric_2 : decode cX6_metric 2 = .ok (.invokevirtual 139, 3) := by decide +kernel
theorem dX6_metric_5 : decode cX6_metric 5 = .ok (.istore 4, 2) := by decide +kernel
theorem dX6_metric_7 : decode cX6_metric 7 = .ok (.iload 4, 2) := by decide +kernel
theorem dX6_metric_9 : decode cX6_metric 9 = .ok (.ifCond .eq 12, 3) := by decide +kernel
theorem dX6_metric_12 : decode cX6_metric 12 = .ok (.iload_n 3, 1) := by decide +kernel
theorem dX6_metric_13 : decode cX6_metric 13 = .ok (.ifCond .lt 8, 3) := by decide +kernel
theorem dX6_metric_16 : decode cX6_metric 16 = .ok (.iload_n 3, 1) := by decide +kernel
theorem dX6_metric_17 : decode cX6_metric 17 = .ok (.iconst 5, 1) := by decide +kernel
theorem dX6_metric_18 : decode cX6_metric 18 = .ok (.if_icmp .le 9, 3) := by decide +kernel
theorem dX6_metric_21 : decode cX6_metric 21 = .ok (.aload_n 0, 1) := by decide +kernel
theorem dX6_metric_22 : decode cX6_metric 22 = .ok (.iconst 1, 1) := by decide +kernel
theorem dX6_metric_23 : decode cX6_metric 23 = .ok (.invokevirtual 127, 3) := by decide +kernel
theorem dX6_metric_26 : decode cX6_metric 26 = .ok (.ireturn, 1) := by decide +kernel
theorem dX6_metric_27 : decode cX6_metric 27 = .ok (.aload_n 0, 1) := by decide +kernel
theorem dX6_metric_28 : decode cX6_metric 28 = .ok (.iload_n 2, 1) := by decide +kernel
theorem dX6_metric_29 : decode cX6_metric 29 = .ok (.invokevirtual 76, 3) := by decide +kernel
theorem dX6_metric_32 : decode cX6_metric 32 = .ok (.ifCond .ne 9, 3) := by decide +kernel
theorem dX6_metric_35 : decode cX6_metric 35 = .ok (.aload_n 0, 1) := by decide +kernel
theorem dX6_metric_36 : decode cX6_metric 36 = .ok (.iconst 1, 1) := by decide +kernel
theorem dX6_metric_37 : decode cX6_metric 37 = .ok (.invokevirtual 127, 3) := by decide +kernel
theorem dX6_metric_40 : decode cX6_metric 40 = .ok (.ireturn, 1) := by decide +kernel
theorem dX6_metric_41 : decode cX6_metric 41 = .ok (.aload_n 0, 1) := by decide +kernel
theorem dX6_metric_42 : decode cX6_metric 42 = .ok (.iconst 0, 1) := by decide +kernel
theorem dX6_metric_43 : decode cX6_metric 43 = .ok (.putfield 37, 3) := by decide +kernel
theorem dX6_metric_46 : decode cX6_metric 46 = .ok (.aload_n 0, 1) := by decide +kernel
theorem dX6_metric_47 : decode cX6_metric 47 = .ok (.iload_n 1, 1) := by decide +kernel
theorem dX6_metric_48 : decode cX6_metric 48 = .ok (.iload_n 2, 1) := by decide +kernel
theorem dX6_metric_49 : decode cX6_metric 49 = .ok (.iload_n 3, 1) := by decide +kernel
theorem dX6_metric_50 : decode cX6_metric 50 = .ok (.invokevirtual 142, 3) := by decide +kernel
theorem dX6_metric_53 : decode cX6_metric 53 = .ok (.ireturn, 1) := by decide +kernel
theorem dX6_parameter_0 : decode cX6_parameter 0 = .ok (.aload_n 0, 1) := by decide +kernel
theorem dX6_parameter_1 : decode cX6_parameter 1 = .ok (.iload_n 1, 1) := by decide +kernel
theorem dX6_parameter_2 : decode cX6_parameter 2 = .ok (.invokevirtual 139, 3) := by decide +kernel
theorem dX6_parameter_5 : decode cX6_parameter 5 = .ok (.ifCond .eq 8, 3) := by decide +kernel
theorem dX6_parameter_8 : decode cX6_parameter 8 = .ok (.iload_n 2, 1) := by decide +kernel
theorem dX6_parameter_9 : decode cX6_parameter 9 = .ok (.iconst 1, 1) := by decide +kernel
theorem dX6_parameter_10 : decode cX6_parameter 10 = .ok (.if_icmp .ge 9, 3) := by decide +kernel
theorem dX6_parameter_13 : decode cX6_parameter 13 = .ok (.aload_n 0, 1) := by decide +kernel
theorem dX6_parameter_14 : decode cX6_parameter 14 = .ok (.iconst 1, 1) := by decide +kernel
theorem dX6_parameter_15 : decode cX6_parameter 15 = .ok (.invokevirtual 127, 3) := by decide +kernel
theorem dX6_parameter_18 : decode cX6_parameter 18 = .ok (.ireturn, 1) := by decide +kernel
theorem dX6_parameter_19 : decode cX6_parameter 19 = .ok (.aload_n 0, 1) := by decide +kernel
theorem dX6_parameter_20 : decode cX6_parameter 20 = .ok (.iconst 0, 1) := by decide +kernel
theorem dX6_parameter_21 : decode cX6_parameter 21 = .ok (.putfield 37, 3) := by decide +kernel
theorem dX6_parameter_24 : decode cX6_parameter 24 = .ok (.iload_n 2, 1) := by decide +kernel
theorem dX6_parameter_25 : decode cX6_parameter 25 = .ok (.aload_n 0, 1) := by decide +kernel
theorem dX6_parameter_26 : decode cX6_parameter 26 = .ok (.bipush 11, 2) := by decide +kernel
theorem dX6_parameter_28 : decode cX6_parameter 28 = .ok (.invokevirtual 57, 3) := by decide +kernel
theorem dX6_parameter_31 : decode cX6_parameter 31 = .ok (.if_icmp .le 7, 3) := by decide +kernel
theorem dX6_parameter_34 : decode cX6_parameter 34 = .ok (.iconst 0, 1) := by decide +kernel
theorem dX6_parameter_35 : decode cX6_parameter 35 = .ok (.goto 33, 3) := by decide +kernel
theorem dX6_parameter_38 : decode cX6_parameter 38 = .ok (.iload_n 2, 1) := by decide +kernel
theorem dX6_parameter_39 : decode cX6_parameter 39 = .ok (.iconst 1, 1) := by decide +kernel
theorem dX6_parameter_40 : decode cX6_parameter 40 = .ok (.if_icmp .ne 18, 3) := by decide +kernel
theorem dX6_parameter_43 : decode cX6_parameter 43 = .ok (.aload_n 0, 1) := by decide +kernel
theorem dX6_parameter_44 : decode cX6_parameter 44 = .ok (.aload_n 0, 1) := by decide +kernel
theorem dX6_parameter_45 : decode cX6_parameter 45 = .ok (.bipush 9, 2) := by decide +kernel
theorem dX6_parameter_47 : decode cX6_parameter 47 = .ok (.invokevirtual 64, 3) := by decide +kernel
theorem dX6_parameter_50 : decode cX6_parameter 50 = .ok (.invokevirtual 83, 3) := by decide +kernel
theorem dX6_parameter_53 : decode cX6_parameter 53 = .ok (.iconst 4, 1) := by decide +kernel
theorem dX6_parameter_54 : decode cX6_parameter 54 = .ok (.ishr, 1) := by decide +kernel
theorem dX6_parameter_55 : decode cX6_parameter 55 = .ok (.goto 13, 3) := by decide +kernel
theorem dX6_parameter_58 : decode cX6_parameter 58 = .ok (.aload_n 0, 1) := by decide +kernel
theorem dX6_parameter_59 : decode cX6_parameter 59 = .ok (.iload_n 1, 1) := by decide +kernel
theorem dX6_parameter_60 : decode cX6_parameter 60 = .ok (.bipush 9, 2) := by decide +kernel
theorem dX6_parameter_62 : decode cX6_parameter 62 = .ok (.iload_n 2, 1) := by decide +kernel
theorem dX6_parameter_63 : decode cX6_parameter 63 = .ok (.iconst 1, 1) := by decide +kernel
theorem dX6_parameter_64 : decode cX6_parameter 64 = .ok (.isub, 1) := by decide +kernel
theorem dX6_parameter_65 : decode cX6_parameter 65 = .ok (.invokevirtual 136, 3) := by decide +kernel
theorem dX6_parameter_68 : decode cX6_parameter 68 = .ok (.ireturn, 1) := by decide +kernel
theorem dX6_open_0 : decode cX6_open 0 = .ok (.aload_n 0, 1) := by decide +kernel
theorem dX6_open_1 : decode cX6_open 1 = .ok (.getfield 145, 3) := by decide +kernel
theorem dX6_open_4 : decode cX6_open 4 = .ok (.istore 4, 2) := by decide +kernel
theorem dX6_open_6 : decode cX6_open 6 = .ok (.iload 4, 2) := by decide +kernel
theorem dX6_open_8 : decode cX6_open 8 = .ok (.iload_n 1, 1) := by decide +kernel
theorem dX6_open_9 : decode cX6_open 9 = .ok (.if_icmp .le 41, 3) := by decide +kernel
theorem dX6_open_12 : decode cX6_open 12 = .ok (.aload_n 0, 1) := by decide +kernel
theorem dX6_open_13 : decode cX6_open 13 = .ok (.getfield 31, 3) := by decide +kernel
theorem dX6_open_16 : decode cX6_open 16 = .ok (.iload 4, 2) := by decide +kernel
theorem dX6_open_18 : decode cX6_open 18 = .ok (.aload_n 0, 1) := by decide +kernel
theorem dX6_open_19 : decode cX6_open 19 = .ok (.getfield 31, 3) := by decide +kernel
theorem dX6_open_22 : decode cX6_open 22 = .ok (.iload 4, 2) := by decide +kernel
theorem dX6_open_24 : decode cX6_open 24 = .ok (.iconst 1, 1) := by decide +kernel
theorem dX6_open_25 : decode cX6_open 25 = .ok (.isub, 1) := by decide +kernel
theorem dX6_open_26 : decode cX6_open 26 = .ok (.iaload, 1) := by decide +kernel
theorem dX6_open_27 : decode cX6_open 27 = .ok (.iastore, 1) := by decide +kernel
theorem dX6_open_28 : decode cX6_open 28 = .ok (.aload_n 0, 1) := by decide +kernel
theorem dX6_open_29 : decode cX6_open 29 = .ok (.getfield 34, 3) := by decide +kernel
theorem dX6_open_32 : decode cX6_open 32 = .ok (.iload 4, 2) := by decide +kernel
theorem dX6_open_34 : decode cX6_open 34 = .ok (.aload_n 0, 1) := by decide +kernel
theorem dX6_open_35 : decode cX6_open 35 = .ok (.getfield 34, 3) := by decide +kernel
theorem dX6_open_38 : decode cX6_open 38 = .ok (.iload 4, 2) := by decide +kernel
theorem dX6_open_40 : decode cX6_open 40 = .ok (.iconst 1, 1) := by decide +kernel
theorem dX6_open_41 : decode cX6_open 41 = .ok (.isub, 1) := by decide +kernel
theorem dX6_open_42 : decode cX6_open 42 = .ok (.iaload, 1) := by decide +kernel
theorem dX6_open_43 : decode cX6_open 43 = .ok (.iastore, 1) := by decide +kernel
theorem dX6_open_44 : decode cX6_open 44 = .ok (.iinc 4 (-1), 3) := by decide +kernel
theorem dX6_open_47 : decode cX6_open 47 = .ok (.goto (-41), 3) := by decide +kernel
theorem dX6_open_50 : decode cX6_open 50 = .ok (.aload_n 0, 1) := by decide +kernel
theorem dX6_open_51 : decode cX6_open 51 = .ok (.getfield 31, 3) := by decide +kernel
theorem dX6_open_54 : decode cX6_open 54 = .ok (.iload_n 1, 1) := by decide +kernel
theorem dX6_open_55 : decode cX6_open 55 = .ok (.iload_n 2, 1) := by decide +kernel
theorem dX6_open_56 : decode cX6_open 56 = .ok (.iastore, 1) := by decide +kernel
theorem dX6_open_57 : decode cX6_open 57 = .ok (.aload_n 0, 1) := by decide +kernel
theorem dX6_open_58 : decode cX6_open 58 = .ok (.getfield 34, 3) := by decide +kernel
theorem dX6_open_61 : decode cX6_open 61 = .ok (.iload_n 1, 1) := by decide +kernel
theorem dX6_open_62 : decode cX6_open 62 = .ok (.iload_n 3, 1) := by decide +kernel
theorem dX6_open_63 : decode cX6_open 63 = .ok (.iastore, 1) := by decide +kernel
theorem dX6_open_64 : decode cX6_open 64 = .ok (.aload_n 0, 1) := by decide +kernel
theorem dX6_open_65 : decode cX6_open 65 = .ok (.dup, 1) := by decide +kernel
theorem dX6_open_66 : decode cX6_open 66 = .ok (.getfield 145, 3) := by decide +kernel
theorem dX6_open_69 : decode cX6_open 69 = .ok (.iconst 1, 1) := by decide +kernel
theorem dX6_open_70 : decode cX6_open 70 = .ok (.iadd, 1) := by decide +kernel
theorem dX6_open_71 : decode cX6_open 71 = .ok (.putfield 145, 3) := by decide +kernel
theorem dX6_open_74 : decode cX6_open 74 = .ok (.return_, 1) := by decide +kernel
theorem dX6_close_0 : decode cX6_close 0 = .ok (.aload_n 0, 1) := by decide +kernel
theorem dX6_close_1 : decode cX6_close 1 = .ok (.dup, 1) := by decide +kernel
theorem dX6_close_2 : decode cX6_close 2 = .ok (.getfield 145, 3) := by decide +kernel
theorem dX6_close_5 : decode cX6_close 5 = .ok (.iconst 1, 1) := by decide +kernel
theorem dX6_close_6 : decode cX6_close 6 = .ok (.isub, 1) := by decide +kernel
theorem dX6_close_7 : decode cX6_close 7 = .ok (.putfield 145, 3) := by decide +kernel
theorem dX6_close_10 : decode cX6_close 10 = .ok (.iload_n 1, 1) := by decide +kernel
theorem dX6_close_11 : decode cX6_close 11 = .ok (.istore_n 2, 1) := by decide +kernel
theorem dX6_close_12 : decode cX6_close 12 = .ok (.iload_n 2, 1) := by decide +kernel
theorem dX6_close_13 : decode cX6_close 13 = .ok (.aload_n 0, 1) := by decide +kernel
theorem dX6_close_14 : decode cX6_close 14 = .ok (.getfield 145, 3) := by decide +kernel
theorem dX6_close_17 : decode cX6_close 17 = .ok (.if_icmp .ge 37, 3) := by decide +kernel
theorem dX6_close_20 : decode cX6_close 20 = .ok (.aload_n 0, 1) := by decide +kernel
theorem dX6_close_21 : decode cX6_close 21 = .ok (.getfield 31, 3) := by decide +kernel
theorem dX6_close_24 : decode cX6_close 24 = .ok (.iload_n 2, 1) := by decide +kernel
theorem dX6_close_25 : decode cX6_close 25 = .ok (.aload_n 0, 1) := by decide +kernel
theorem dX6_close_26 : decode cX6_close 26 = .ok (.getfield 31, 3) := by decide +kernel
theorem dX6_close_29 : decode cX6_close 29 = .ok (.iload_n 2, 1) := by decide +kernel
theorem dX6_close_30 : decode cX6_close 30 = .ok (.iconst 1, 1) := by decide +kernel
theorem dX6_close_31 : decode cX6_close 31 = .ok (.iadd, 1) := by decide +kernel
theorem dX6_close_32 : decode cX6_close 32 = .ok (.iaload, 1) := by decide +kernel
theorem dX6_close_33 : decode cX6_close 33 = .ok (.iastore, 1) := by decide +kernel
theorem dX6_close_34 : decode cX6_close 34 = .ok (.aload_n 0, 1) := by decide +kernel
theorem dX6_close_35 : decode cX6_close 35 = .ok (.getfield 34, 3) := by decide +kernel
theorem dX6_close_38 : decode cX6_close 38 = .ok (.iload_n 2, 1) := by decide +kernel
theorem dX6_close_39 : decode cX6_close 39 = .ok (.aload_n 0, 1) := by decide +kernel
theorem dX6_close_40 : decode cX6_close 40 = .ok (.getfield 34, 3) := by decide +kernel
theorem dX6_close_43 : decode cX6_close 43 = .ok (.iload_n 2, 1) := by decide +kernel
theorem dX6_close_44 : decode cX6_close 44 = .ok (.iconst 1, 1) := by decide +kernel
theorem dX6_close_45 : decode cX6_close 45 = .ok (.iadd, 1) := by decide +kernel
theorem dX6_close_46 : decode cX6_close 46 = .ok (.iaload, 1) := by decide +kernel
theorem dX6_close_47 : decode cX6_close 47 = .ok (.iastore, 1) := by decide +kernel
theorem dX6_close_48 : decode cX6_close 48 = .ok (.iinc 2 1, 3) := by decide +kernel
theorem dX6_close_51 : decode cX6_close 51 = .ok (.goto (-39), 3) := by decide +kernel
theorem dX6_close_54 : decode cX6_close 54 = .ok (.return_, 1) := by decide +kernel
theorem dX6_change_0 : decode cX6_change 0 = .ok (.aload_n 0, 1) := by decide +kernel
theorem dX6_change_1 : decode cX6_change 1 = .ok (.getfield 31, 3) := by decide +kernel
theorem dX6_change_4 : decode cX6_change 4 = .ok (.iload_n 1, 1) := by decide +kernel
theorem dX6_change_5 : decode cX6_change 5 = .ok (.iconst 1, 1) := by decide +kernel
theorem dX6_change_6 : decode cX6_change 6 = .ok (.iastore, 1) := by decide +kernel
theorem dX6_change_7 : decode cX6_change 7 = .ok (.aload_n 0, 1) := by decide +kernel
theorem dX6_change_8 : decode cX6_change 8 = .ok (.getfield 34, 3) := by decide +kernel
theorem dX6_change_11 : decode cX6_change 11 = .ok (.iload_n 1, 1) := by decide +kernel
theorem dX6_change_12 : decode cX6_change 12 = .ok (.iload_n 2, 1) := by decide +kernel
theorem dX6_change_13 : decode cX6_change 13 = .ok (.iastore, 1) := by decide +kernel
theorem dX6_change_14 : decode cX6_change 14 = .ok (.return_, 1) := by decide +kernel
theorem dX6_join_0 : decode cX6_join 0 = .ok (.iload_n 2, 1) := by decide +kernel
theorem dX6_join_1 : decode cX6_join 1 = .ok (.ifCond .ne 18, 3) := by decide +kernel
theorem dX6_join_4 : decode cX6_join 4 = .ok (.aload_n 0, 1) := by decide +kernel
theorem dX6_join_5 : decode cX6_join 5 = .ok (.iload_n 1, 1) := by decide +kernel
theorem dX6_join_6 : decode cX6_join 6 = .ok (.iload_n 3, 1) := by decide +kernel
theorem dX6_join_7 : decode cX6_join 7 = .ok (.invokevirtual 148, 3) := by decide +kernel
theorem dX6_join_10 : decode cX6_join 10 = .ok (.aload_n 0, 1) := by decide +kernel
theorem dX6_join_11 : decode cX6_join 11 = .ok (.iload_n 1, 1) := by decide +kernel
theorem dX6_join_12 : decode cX6_join 12 = .ok (.iconst 1, 1) := by decide +kernel
theorem dX6_join_13 : decode cX6_join 13 = .ok (.iadd, 1) := by decide +kernel
theorem dX6_join_14 : decode cX6_join 14 = .ok (.invokevirtual 152, 3) := by decide +kernel
theorem dX6_join_17 : decode cX6_join 17 = .ok (.iload_n 1, 1) := by decide +kernel
theorem dX6_join_18 : decode cX6_join 18 = .ok (.ireturn, 1) := by decide +kernel
theorem dX6_join_19 : decode cX6_join 19 = .ok (.iload_n 2, 1) := by decide +kernel
theorem dX6_join_20 : decode cX6_join 20 = .ok (.iconst 1, 1) := by decide +kernel
theorem dX6_join_21 : decode cX6_join 21 = .ok (.if_icmp .eq 8, 3) := by decide +kernel
theorem dX6_join_24 : decode cX6_join 24 = .ok (.iload_n 2, 1) := by decide +kernel
theorem dX6_join_25 : decode cX6_join 25 = .ok (.iconst 5, 1) := by decide +kernel
theorem dX6_join_26 : decode cX6_join 26 = .ok (.if_icmp .ne 12, 3) := by decide +kernel
theorem dX6_join_29 : decode cX6_join 29 = .ok (.aload_n 0, 1) := by decide +kernel
theorem dX6_join_30 : decode cX6_join 30 = .ok (.iload_n 1, 1) := by decide +kernel
theorem dX6_join_31 : decode cX6_join 31 = .ok (.iload_n 3, 1) := by decide +kernel
theorem dX6_join_32 : decode cX6_join 32 = .ok (.invokevirtual 148, 3) := by decide +kernel
theorem dX6_join_35 : decode cX6_join 35 = .ok (.goto 34, 3) := by decide +kernel
theorem dX6_join_38 : decode cX6_join 38 = .ok (.iload_n 2, 1) := by decide +kernel
theorem dX6_join_39 : decode cX6_join 39 = .ok (.iconst 2, 1) := by decide +kernel
theorem dX6_join_40 : decode cX6_join 40 = .ok (.if_icmp .eq 9, 3) := by decide +kernel
theorem dX6_join_43 : decode cX6_join 43 = .ok (.iload_n 2, 1) := by decide +kernel
theorem dX6_join_44 : decode cX6_join 44 = .ok (.bipush 6, 2) := by decide +kernel
theorem dX6_join_46 : decode cX6_join 46 = .ok (.if_icmp .ne 14, 3) := by decide +kernel
theorem dX6_join_49 : decode cX6_join 49 = .ok (.aload_n 0, 1) := by decide +kernel
theorem dX6_join_50 : decode cX6_join 50 = .ok (.iload_n 1, 1) := by decide +kernel
theorem dX6_join_51 : decode cX6_join 51 = .ok (.iconst 1, 1) := by decide +kernel
theorem dX6_join_52 : decode cX6_join 52 = .ok (.iadd, 1) := by decide +kernel
theorem dX6_join_53 : decode cX6_join 53 = .ok (.iload_n 3, 1) := by decide +kernel
theorem dX6_join_54 : decode cX6_join 54 = .ok (.invokevirtual 148, 3) := by decide +kernel
theorem dX6_join_57 : decode cX6_join 57 = .ok (.goto 12, 3) := by decide +kernel
theorem dX6_join_60 : decode cX6_join 60 = .ok (.aload_n 0, 1) := by decide +kernel
theorem dX6_join_61 : decode cX6_join 61 = .ok (.iload_n 1, 1) := by decide +kernel
theorem dX6_join_62 : decode cX6_join 62 = .ok (.iconst 1, 1) := by decide +kernel
theorem dX6_join_63 : decode cX6_join 63 = .ok (.iadd, 1) := by decide +kernel
theorem dX6_join_64 : decode cX6_join 64 = .ok (.iconst 1, 1) := by decide +kernel
theorem dX6_join_65 : decode cX6_join 65 = .ok (.iload_n 3, 1) := by decide +kernel
theorem dX6_join_66 : decode cX6_join 66 = .ok (.invokevirtual 156, 3) := by decide +kernel
theorem dX6_join_69 : decode cX6_join 69 = .ok (.iload_n 2, 1) := by decide +kernel
theorem dX6_join_70 : decode cX6_join 70 = .ok (.iconst 4, 1) := by decide +kernel
theorem dX6_join_71 : decode cX6_join 71 = .ok (.if_icmp .ge 7, 3) := by decide +kernel
theorem dX6_join_74 : decode cX6_join 74 = .ok (.iload_n 1, 1) := by decide +kernel
theorem dX6_join_75 : decode cX6_join 75 = .ok (.goto 18, 3) := by decide +kernel
theorem dX6_join_78 : decode cX6_join 78 = .ok (.iload_n 2, 1) := by decide +kernel
theorem dX6_join_79 : decode cX6_join 79 = .ok (.bipush 11, 2) := by decide +kernel
theorem dX6_join_81 : decode cX6_join 81 = .ok (.if_icmp .ne 9, 3) := by decide +kernel
theorem dX6_join_84 : decode cX6_join 84 = .ok (.iload_n 1, 1) := by decide +kernel
theorem dX6_join_85 : decode cX6_join 85 = .ok (.iconst 2, 1) := by decide +kernel
theorem dX6_join_86 : decode cX6_join 86 = .ok (.iadd, 1) := by decide +kernel
theorem dX6_join_87 : decode cX6_join 87 = .ok (.goto 6, 3) := by decide +kernel
theorem dX6_join_90 : decode cX6_join 90 = .ok (.iload_n 1, 1) := by decide +kernel
theorem dX6_join_91 : decode cX6_join 91 = .ok (.iconst 1, 1) := by decide +kernel
theorem dX6_join_92 : decode cX6_join 92 = .ok (.iadd, 1) := by decide +kernel
theorem dX6_join_93 : decode cX6_join 93 = .ok (.ireturn, 1) := by decide +kernel
theorem dX6_setting_0 : decode cX6_setting 0 = .ok (.aload_n 0, 1) := by decide +kernel
theorem dX6_setting_1 : decode cX6_setting 1 = .ok (.iconst 0, 1) := by decide +kernel
theorem dX6_setting_2 : decode cX6_setting 2 = .ok (.putfield 145, 3) := by decide +kernel
theorem dX6_setting_5 : decode cX6_setting 5 = .ok (.aload_n 0, 1) := by decide +kernel
theorem dX6_setting_6 : decode cX6_setting 6 = .ok (.iconst 0, 1) := by decide +kernel
theorem dX6_setting_7 : decode cX6_setting 7 = .ok (.iconst 3, 1) := by decide +kernel
theorem dX6_setting_8 : decode cX6_setting 8 = .ok (.sipush 256, 3) := by decide +kernel
theorem dX6_setting_11 : decode cX6_setting 11 = .ok (.invokevirtual 156, 3) := by decide +kernel
theorem dX6_setting_14 : decode cX6_setting 14 = .ok (.iconst 0, 1) := by decide +kernel
theorem dX6_setting_15 : decode cX6_setting 15 = .ok (.istore_n 3, 1) := by decide +kernel
theorem dX6_setting_16 : decode cX6_setting 16 = .ok (.iload_n 3, 1) := by decide +kernel
theorem dX6_setting_17 : decode cX6_setting 17 = .ok (.iload_n 2, 1) := by decide +kernel
theorem dX6_setting_18 : decode cX6_setting 18 = .ok (.if_icmp .ge 33, 3) := by decide +kernel
theorem dX6_setting_21 : decode cX6_setting 21 = .ok (.aload_n 0, 1) := by decide +kernel
theorem dX6_setting_22 : decode cX6_setting 22 = .ok (.iload_n 3, 1) := by decide +kernel
theorem dX6_setting_23 : decode cX6_setting 23 = .ok (.iconst 1, 1) := by decide +kernel
theorem dX6_setting_24 : decode cX6_setting 24 = .ok (.iadd, 1) := by decide +kernel
theorem dX6_setting_25 : decode cX6_setting 25 = .ok (.iconst 0, 1) := by decide +kernel
theorem dX6_setting_26 : decode cX6_setting 26 = .ok (.aload_n 0, 1) := by decide +kernel
theorem dX6_setting_27 : decode cX6_setting 27 = .ok (.getfield 8, 3) := by decide +kernel
theorem dX6_setting_30 : decode cX6_setting 30 = .ok (.aload_n 0, 1) := by decide +kernel
theorem dX6_setting_31 : decode cX6_setting 31 = .ok (.getfield 14, 3) := by decide +kernel
theorem dX6_setting_34 : decode cX6_setting 34 = .ok (.aload_n 0, 1) := by decide +kernel
theorem dX6_setting_35 : decode cX6_setting 35 = .ok (.getfield 45, 3) := by decide +kernel
theorem dX6_setting_38 : decode cX6_setting 38 = .ok (.iaload, 1) := by decide +kernel
theorem dX6_setting_39 : decode cX6_setting 39 = .ok (.iload_n 3, 1) := by decide +kernel
theorem dX6_setting_40 : decode cX6_setting 40 = .ok (.iadd, 1) := by decide +kernel
theorem dX6_setting_41 : decode cX6_setting 41 = .ok (.iaload, 1) := by decide +kernel
theorem dX6_setting_42 : decode cX6_setting 42 = .ok (.invokevirtual 156, 3) := by decide +kernel
theorem dX6_setting_45 : decode cX6_setting 45 = .ok (.iinc 3 1, 3) := by decide +kernel
theorem dX6_setting_48 : decode cX6_setting 48 = .ok (.goto (-32), 3) := by decide +kernel
theorem dX6_setting_51 : decode cX6_setting 51 = .ok (.aload_n 0, 1) := by decide +kernel
theorem dX6_setting_52 : decode cX6_setting 52 = .ok (.iload_n 2, 1) := by decide +kernel
theorem dX6_setting_53 : decode cX6_setting 53 = .ok (.iconst 1, 1) := by decide +kernel
theorem dX6_setting_54 : decode cX6_setting 54 = .ok (.iadd, 1) := by decide +kernel
theorem dX6_setting_55 : decode cX6_setting 55 = .ok (.iconst 3, 1) := by decide +kernel
theorem dX6_setting_56 : decode cX6_setting 56 = .ok (.aload_n 0, 1) := by decide +kernel
theorem dX6_setting_57 : decode cX6_setting 57 = .ok (.invokevirtual 91, 3) := by decide +kernel
theorem dX6_setting_60 : decode cX6_setting 60 = .ok (.invokevirtual 156, 3) := by decide +kernel
theorem dX6_setting_63 : decode cX6_setting 63 = .ok (.iconst 0, 1) := by decide +kernel
theorem dX6_setting_64 : decode cX6_setting 64 = .ok (.istore_n 3, 1) := by decide +kernel
theorem dX6_setting_65 : decode cX6_setting 65 = .ok (.iconst 0, 1) := by decide +kernel
theorem dX6_setting_66 : decode cX6_setting 66 = .ok (.istore 4, 2) := by decide +kernel
theorem dX6_setting_68 : decode cX6_setting 68 = .ok (.iload_n 3, 1) := by decide +kernel
theorem dX6_setting_69 : decode cX6_setting 69 = .ok (.iconst 1, 1) := by decide +kernel
theorem dX6_setting_70 : decode cX6_setting 70 = .ok (.iadd, 1) := by decide +kernel
theorem dX6_setting_71 : decode cX6_setting 71 = .ok (.aload_n 0, 1) := by decide +kernel
theorem dX6_setting_72 : decode cX6_setting 72 = .ok (.getfield 145, 3) := by decide +kernel
theorem dX6_setting_75 : decode cX6_setting 75 = .ok (.if_icmp .ge 151, 3) := by decide +kernel
theorem dX6_setting_78 : decode cX6_setting 78 = .ok (.iinc 4 1, 3) := by decide +kernel
theorem dX6_setting_81 : decode cX6_setting 81 = .ok (.iload 4, 2) := by decide +kernel
theorem dX6_setting_83 : decode cX6_setting 83 = .ok (.sipush 10000, 3) := by decide +kernel
theorem dX6_setting_86 : decode cX6_setting 86 = .ok (.if_icmp .le 5, 3) := by decide +kernel
theorem dX6_setting_89 : decode cX6_setting 89 = .ok (.iconst 3, 1) := by decide +kernel
theorem dX6_setting_90 : decode cX6_setting 90 = .ok (.ireturn, 1) := by decide +kernel
theorem dX6_setting_91 : decode cX6_setting 91 = .ok (.aload_n 0, 1) := by decide +kernel
theorem dX6_setting_92 : decode cX6_setting 92 = .ok (.getfield 34, 3) := by decide +kernel
theorem dX6_setting_95 : decode cX6_setting 95 = .ok (.iload_n 3, 1) := by decide +kernel
theorem dX6_setting_96 : decode cX6_setting 96 = .ok (.iconst 1, 1) := by decide +kernel
theorem dX6_setting_97 : decode cX6_setting 97 = .ok (.iadd, 1) := by decide +kernel
theorem dX6_setting_98 : decode cX6_setting 98 = .ok (.iaload, 1) := by decide +kernel
theorem dX6_setting_99 : decode cX6_setting 99 = .ok (.istore 5, 2) := by decide +kernel
theorem dX6_setting_101 : decode cX6_setting 101 = .ok (.iload 5, 2) := by decide +kernel
theorem dX6_setting_103 : decode cX6_setting 103 = .ok (.ifCond .ge 7, 3) := by decide +kernel
theorem dX6_setting_106 : decode cX6_setting 106 = .ok (.iconst (-1), 1) := by decide +kernel
theorem dX6_setting_107 : decode cX6_setting 107 = .ok (.goto 15, 3) := by decide +kernel
theorem dX6_setting_110 : decode cX6_setting 110 = .ok (.aload_n 0, 1) := by decide +kernel
theorem dX6_setting_111 : decode cX6_setting 111 = .ok (.aload_n 0, 1) := by decide +kernel
theorem dX6_setting_112 : decode cX6_setting 112 = .ok (.getfield 34, 3) := by decide +kernel
theorem dX6_setting_115 : decode cX6_setting 115 = .ok (.iload_n 3, 1) := by decide +kernel
theorem dX6_setting_116 : decode cX6_setting 116 = .ok (.iaload, 1) := by decide +kernel
theorem dX6_setting_117 : decode cX6_setting 117 = .ok (.iload 5, 2) := by decide +kernel
theorem dX6_setting_119 : decode cX6_setting 119 = .ok (.invokevirtual 160, 3) := by decide +kernel
theorem dX6_setting_122 : decode cX6_setting 122 = .ok (.istore 6, 2) := by decide +kernel
theorem dX6_setting_124 : decode cX6_setting 124 = .ok (.iload 6, 2) := by decide +kernel
theorem dX6_setting_126 : decode cX6_setting 126 = .ok (.ifCond .ge 9, 3) := by decide +kernel
theorem dX6_setting_129 : decode cX6_setting 129 = .ok (.iinc 3 1, 3) := by decide +kernel
theorem dX6_setting_132 : decode cX6_setting 132 = .ok (.goto 79, 3) := by decide +kernel
theorem dX6_setting_135 : decode cX6_setting 135 = .ok (.aload_n 0, 1) := by decide +kernel
theorem dX6_setting_136 : decode cX6_setting 136 = .ok (.iload 6, 2) := by decide +kernel
theorem dX6_setting_138 : decode cX6_setting 138 = .ok (.iconst 2, 1) := by decide +kernel
theorem dX6_setting_139 : decode cX6_setting 139 = .ok (.invokevirtual 88, 3) := by decide +kernel
theorem dX6_setting_142 : decode cX6_setting 142 = .ok (.bipush 127, 2) := by decide +kernel
theorem dX6_setting_144 : decode cX6_setting 144 = .ok (.if_icmp .le 47, 3) := by decide +kernel
theorem dX6_setting_147 : decode cX6_setting 147 = .ok (.aload_n 0, 1) := by decide +kernel
theorem dX6_setting_148 : decode cX6_setting 148 = .ok (.iload_n 3, 1) := by decide +kernel
theorem dX6_setting_149 : decode cX6_setting 149 = .ok (.iconst 1, 1) := by decide +kernel
theorem dX6_setting_150 : decode cX6_setting 150 = .ok (.iadd, 1) := by decide +kernel
theorem dX6_setting_151 : decode cX6_setting 151 = .ok (.iconst 2, 1) := by decide +kernel
theorem dX6_setting_152 : decode cX6_setting 152 = .ok (.aload_n 0, 1) := by decide +kernel
theorem dX6_setting_153 : decode cX6_setting 153 = .ok (.iload_n 1, 1) := by decide +kernel
theorem dX6_setting_154 : decode cX6_setting 154 = .ok (.bipush 7, 2) := by decide +kernel
theorem dX6_setting_156 : decode cX6_setting 156 = .ok (.sipush 256, 3) := by decide +kernel
theorem dX6_setting_159 : decode cX6_setting 159 = .ok (.aload_n 0, 1) := by decide +kernel
theorem dX6_setting_160 : decode cX6_setting 160 = .ok (.iload 6, 2) := by decide +kernel
theorem dX6_setting_162 : decode cX6_setting 162 = .ok (.iconst 2, 1) := by decide +kernel
theorem dX6_setting_163 : decode cX6_setting 163 = .ok (.invokevirtual 88, 3) := by decide +kernel
theorem dX6_setting_166 : decode cX6_setting 166 = .ok (.sipush 128, 3) := by decide +kernel
theorem dX6_setting_169 : decode cX6_setting 169 = .ok (.isub, 1) := by decide +kernel
theorem dX6_setting_170 : decode cX6_setting 170 = .ok (.imul, 1) := by decide +kernel
theorem dX6_setting_171 : decode cX6_setting 171 = .ok (.aload_n 0, 1) := by decide +kernel
theorem dX6_setting_172 : decode cX6_setting 172 = .ok (.iload 6, 2) := by decide +kernel
theorem dX6_setting_174 : decode cX6_setting 174 = .ok (.iconst 3, 1) := by decide +kernel
theorem dX6_setting_175 : decode cX6_setting 175 = .ok (.invokevirtual 88, 3) := by decide +kernel
theorem dX6_setting_178 : decode cX6_setting 178 = .ok (.iadd, 1) := by decide +kernel
theorem dX6_setting_179 : decode cX6_setting 179 = .ok (.invokevirtual 136, 3) := by decide +kernel
theorem dX6_setting_182 : decode cX6_setting 182 = .ok (.invokevirtual 156, 3) := by decide +kernel
theorem dX6_setting_185 : decode cX6_setting 185 = .ok (.iinc 3 2, 3) := by decide +kernel
theorem dX6_setting_188 : decode cX6_setting 188 = .ok (.goto 23, 3) := by decide +kernel
theorem dX6_setting_191 : decode cX6_setting 191 = .ok (.aload_n 0, 1) := by decide +kernel
theorem dX6_setting_192 : decode cX6_setting 192 = .ok (.iload_n 3, 1) := by decide +kernel
theorem dX6_setting_193 : decode cX6_setting 193 = .ok (.aload_n 0, 1) := by decide +kernel
theorem dX6_setting_194 : decode cX6_setting 194 = .ok (.iload 6, 2) := by decide +kernel
theorem dX6_setting_196 : decode cX6_setting 196 = .ok (.iconst 2, 1) := by decide +kernel
theorem dX6_setting_197 : decode cX6_setting 197 = .ok (.invokevirtual 88, 3) := by decide +kernel
theorem dX6_setting_200 : decode cX6_setting 200 = .ok (.aload_n 0, 1) := by decide +kernel
theorem dX6_setting_201 : decode cX6_setting 201 = .ok (.iload 6, 2) := by decide +kernel
theorem dX6_setting_203 : decode cX6_setting 203 = .ok (.iconst 3, 1) := by decide +kernel
theorem dX6_setting_204 : decode cX6_setting 204 = .ok (.invokevirtual 88, 3) := by decide +kernel
theorem dX6_setting_207 : decode cX6_setting 207 = .ok (.invokevirtual 163, 3) := by decide +kernel
theorem dX6_setting_210 : decode cX6_setting 210 = .ok (.istore_n 3, 1) := by decide +kernel
theorem dX6_setting_211 : decode cX6_setting 211 = .ok (.aload_n 0, 1) := by decide +kernel
theorem dX6_setting_212 : decode cX6_setting 212 = .ok (.getfield 145, 3) := by decide +kernel
theorem dX6_setting_215 : decode cX6_setting 215 = .ok (.sipush 1000, 3) := by decide +kernel
theorem dX6_setting_218 : decode cX6_setting 218 = .ok (.if_icmp .le 5, 3) := by decide +kernel
theorem dX6_setting_221 : decode cX6_setting 221 = .ok (.iconst 3, 1) := by decide +kernel
theorem dX6_setting_222 : decode cX6_setting 222 = .ok (.ireturn, 1) := by decide +kernel
theorem dX6_setting_223 : decode cX6_setting 223 = .ok (.goto (-155), 3) := by decide +kernel
theorem dX6_setting_226 : decode cX6_setting 226 = .ok (.iconst 0, 1) := by decide +kernel
theorem dX6_setting_227 : decode cX6_setting 227 = .ok (.ireturn, 1) := by decide +kernel
theorem dX6_set_0 : decode cX6_set 0 = .ok (.aload_n 0, 1) := by decide +kernel
theorem dX6_set_1 : decode cX6_set 1 = .ok (.getfield 41, 3) := by decide +kernel
theorem dX6_set_4 : decode cX6_set 4 = .ok (.istore_n 2, 1) := by decide +kernel
theorem dX6_set_5 : decode cX6_set 5 = .ok (.aload_n 0, 1) := by decide +kernel
theorem dX6_set_6 : decode cX6_set 6 = .ok (.iconst 0, 1) := by decide +kernel
theorem dX6_set_7 : decode cX6_set 7 = .ok (.putfield 41, 3) := by decide +kernel
theorem dX6_set_10 : decode cX6_set 10 = .ok (.aload_n 0, 1) := by decide +kernel
theorem dX6_set_11 : decode cX6_set 11 = .ok (.iconst 0, 1) := by decide +kernel
theorem dX6_set_12 : decode cX6_set 12 = .ok (.putfield 145, 3) := by decide +kernel
theorem dX6_set_15 : decode cX6_set 15 = .ok (.aload_n 0, 1) := by decide +kernel
theorem dX6_set_16 : decode cX6_set 16 = .ok (.lconst 0, 1) := by decide +kernel
theorem dX6_set_17 : decode cX6_set 17 = .ok (.putfield 166, 3) := by decide +kernel
theorem dX6_set_20 : decode cX6_set 20 = .ok (.aload_n 0, 1) := by decide +kernel
theorem dX6_set_21 : decode cX6_set 21 = .ok (.iload_n 1, 1) := by decide +kernel
theorem dX6_set_22 : decode cX6_set 22 = .ok (.invokevirtual 139, 3) := by decide +kernel
theorem dX6_set_25 : decode cX6_set 25 = .ok (.ifCond .ne 9, 3) := by decide +kernel
theorem dX6_set_28 : decode cX6_set 28 = .ok (.aload_n 0, 1) := by decide +kernel
theorem dX6_set_29 : decode cX6_set 29 = .ok (.iconst 1, 1) := by decide +kernel
theorem dX6_set_30 : decode cX6_set 30 = .ok (.invokevirtual 127, 3) := by decide +kernel
theorem dX6_set_33 : decode cX6_set 33 = .ok (.ireturn, 1) := by decide +kernel
theorem dX6_set_34 : decode cX6_set 34 = .ok (.iload_n 2, 1) := by decide +kernel
theorem dX6_set_35 : decode cX6_set 35 = .ok (.sipush 200, 3) := by decide +kernel
theorem dX6_set_38 : decode cX6_set 38 = .ok (.if_icmp .gt 7, 3) := by decide +kernel
theorem dX6_set_41 : decode cX6_set 41 = .ok (.iconst 1, 1) := by decide +kernel
theorem dX6_set_42 : decode cX6_set 42 = .ok (.goto 4, 3) := by decide +kernel
theorem dX6_set_45 : decode cX6_set 45 = .ok (.iconst 0, 1) := by decide +kernel
theorem dX6_set_46 : decode cX6_set 46 = .ok (.istore_n 3, 1) := by decide +kernel
theorem dX6_set_47 : decode cX6_set 47 = .ok (.iconst 0, 1) := by decide +kernel
theorem dX6_set_48 : decode cX6_set 48 = .ok (.istore 4, 2) := by decide +kernel
theorem dX6_set_50 : decode cX6_set 50 = .ok (.iload 4, 2) := by decide +kernel
theorem dX6_set_52 : decode cX6_set 52 = .ok (.iload_n 2, 1) := by decide +kernel
theorem dX6_set_53 : decode cX6_set 53 = .ok (.if_icmp .ge 35, 3) := by decide +kernel
theorem dX6_set_56 : decode cX6_set 56 = .ok (.iload_n 3, 1) := by decide +kernel
theorem dX6_set_57 : decode cX6_set 57 = .ok (.ifCond .eq 31, 3) := by decide +kernel
theorem dX6_set_60 : decode cX6_set 60 = .ok (.aload_n 0, 1) := by decide +kernel
theorem dX6_set_61 : decode cX6_set 61 = .ok (.aload_n 0, 1) := by decide +kernel
theorem dX6_set_62 : decode cX6_set 62 = .ok (.getfield 8, 3) := by decide +kernel
theorem dX6_set_65 : decode cX6_set 65 = .ok (.aload_n 0, 1) := by decide +kernel
theorem dX6_set_66 : decode cX6_set 66 = .ok (.getfield 14, 3) := by decide +kernel
theorem dX6_set_69 : decode cX6_set 69 = .ok (.aload_n 0, 1) := by decide +kernel
theorem dX6_set_70 : decode cX6_set 70 = .ok (.getfield 45, 3) := by decide +kernel
theorem dX6_set_73 : decode cX6_set 73 = .ok (.iaload, 1) := by decide +kernel
theorem dX6_set_74 : decode cX6_set 74 = .ok (.iload 4, 2) := by decide +kernel
theorem dX6_set_76 : decode cX6_set 76 = .ok (.iadd, 1) := by decide +kernel
theorem dX6_set_77 : decode cX6_set 77 = .ok (.iaload, 1) := by decide +kernel
theorem dX6_set_78 : decode cX6_set 78 = .ok (.invokevirtual 76, 3) := by decide +kernel
theorem dX6_set_81 : decode cX6_set 81 = .ok (.istore_n 3, 1) := by decide +kernel
theorem dX6_set_82 : decode cX6_set 82 = .ok (.iinc 4 1, 3) := by decide +kernel
theorem dX6_set_85 : decode cX6_set 85 = .ok (.goto (-35), 3) := by decide +kernel
theorem dX6_set_88 : decode cX6_set 88 = .ok (.iload_n 3, 1) := by decide +kernel
theorem dX6_set_89 : decode cX6_set 89 = .ok (.ifCond .ne 9, 3) := by decide +kernel
theorem dX6_set_92 : decode cX6_set 92 = .ok (.aload_n 0, 1) := by decide +kernel
theorem dX6_set_93 : decode cX6_set 93 = .ok (.iconst 2, 1) := by decide +kernel
theorem dX6_set_94 : decode cX6_set 94 = .ok (.invokevirtual 127, 3) := by decide +kernel
theorem dX6_set_97 : decode cX6_set 97 = .ok (.ireturn, 1) := by decide +kernel
theorem dX6_set_98 : decode cX6_set 98 = .ok (.aload_n 0, 1) := by decide +kernel
theorem dX6_set_99 : decode cX6_set 99 = .ok (.iload_n 1, 1) := by decide +kernel
theorem dX6_set_100 : decode cX6_set 100 = .ok (.iload_n 2, 1) := by decide +kernel
theorem dX6_set_101 : decode cX6_set 101 = .ok (.invokevirtual 170, 3) := by decide +kernel
theorem dX6_set_104 : decode cX6_set 104 = .ok (.istore 4, 2) := by decide +kernel
theorem dX6_set_106 : decode cX6_set 106 = .ok (.iload 4, 2) := by decide +kernel
theorem dX6_set_108 : decode cX6_set 108 = .ok (.ifCond .le 15, 3) := by decide +kernel
theorem dX6_set_111 : decode cX6_set 111 = .ok (.aload_n 0, 1) := by decide +kernel
theorem dX6_set_112 : decode cX6_set 112 = .ok (.iconst 0, 1) := by decide +kernel
theorem dX6_set_113 : decode cX6_set 113 = .ok (.putfield 145, 3) := by decide +kernel
theorem dX6_set_116 : decode cX6_set 116 = .ok (.aload_n 0, 1) := by decide +kernel
theorem dX6_set_117 : decode cX6_set 117 = .ok (.iload 4, 2) := by decide +kernel
theorem dX6_set_119 : decode cX6_set 119 = .ok (.invokevirtual 127, 3) := by decide +kernel
theorem dX6_set_122 : decode cX6_set 122 = .ok (.ireturn, 1) := by decide +kernel
theorem dX6_set_123 : decode cX6_set 123 = .ok (.aload_n 0, 1) := by decide +kernel
theorem dX6_set_124 : decode cX6_set 124 = .ok (.iconst 0, 1) := by decide +kernel
theorem dX6_set_125 : decode cX6_set 125 = .ok (.putfield 37, 3) := by decide +kernel
theorem dX6_set_128 : decode cX6_set 128 = .ok (.iconst 0, 1) := by decide +kernel
theorem dX6_set_129 : decode cX6_set 129 = .ok (.istore 5, 2) := by decide +kernel
theorem dX6_set_131 : decode cX6_set 131 = .ok (.iload 5, 2) := by decide +kernel
theorem dX6_set_133 : decode cX6_set 133 = .ok (.aload_n 0, 1) := by decide +kernel
theorem dX6_set_134 : decode cX6_set 134 = .ok (.getfield 145, 3) := by decide +kernel
theorem dX6_set_137 : decode cX6_set 137 = .ok (.if_icmp .ge 74, 3) := by decide +kernel
theorem dX6_set_140 : decode cX6_set 140 = .ok (.aload_n 0, 1) := by decide +kernel
theorem dX6_set_141 : decode cX6_set 141 = .ok (.getfield 31, 3) := by decide +kernel
theorem dX6_set_144 : decode cX6_set 144 = .ok (.iload 5, 2) := by decide +kernel
theorem dX6_set_146 : decode cX6_set 146 = .ok (.iaload, 1) := by decide +kernel
theorem dX6_set_147 : decode cX6_set 147 = .ok (.iconst 3, 1) := by decide +kernel
theorem dX6_set_148 : decode cX6_set 148 = .ok (.if_icmp .ne 12, 3) := by decide +kernel
theorem dX6_set_151 : decode cX6_set 151 = .ok (.aload_n 0, 1) := by decide +kernel
theorem dX6_set_152 : decode cX6_set 152 = .ok (.iload 5, 2) := by decide +kernel
theorem dX6_set_154 : decode cX6_set 154 = .ok (.invokevirtual 152, 3) := by decide +kernel
theorem dX6_set_157 : decode cX6_set 157 = .ok (.goto (-26), 3) := by decide +kernel
theorem dX6_set_160 : decode cX6_set 160 = .ok (.aload_n 0, 1) := by decide +kernel
theorem dX6_set_161 : decode cX6_set 161 = .ok (.dup, 1) := by decide +kernel
theorem dX6_set_162 : decode cX6_set 162 = .ok (.getfield 166, 3) := by decide +kernel
theorem dX6_set_165 : decode cX6_set 165 = .ok (.aload_n 0, 1) := by decide +kernel
theorem dX6_set_166 : decode cX6_set 166 = .ok (.getfield 31, 3) := by decide +kernel
theorem dX6_set_169 : decode cX6_set 169 = .ok (.iload 5, 2) := by decide +kernel
theorem dX6_set_171 : decode cX6_set 171 = .ok (.iaload, 1) := by decide +kernel
theorem dX6_set_172 : decode cX6_set 172 = .ok (.iconst 2, 1) := by decide +kernel
theorem dX6_set_173 : decode cX6_set 173 = .ok (.if_icmp .ne 14, 3) := by decide +kernel
theorem dX6_set_176 : decode cX6_set 176 = .ok (.aload_n 0, 1) := by decide +kernel
theorem dX6_set_177 : decode cX6_set 177 = .ok (.getfield 34, 3) := by decide +kernel
theorem dX6_set_180 : decode cX6_set 180 = .ok (.iload 5, 2) := by decide +kernel
theorem dX6_set_182 : decode cX6_set 182 = .ok (.iaload, 1) := by decide +kernel
theorem dX6_set_183 : decode cX6_set 183 = .ok (.i2l, 1) := by decide +kernel
theorem dX6_set_184 : decode cX6_set 184 = .ok (.goto 17, 3) := by decide +kernel
theorem dX6_set_187 : decode cX6_set 187 = .ok (.aload_n 0, 1) := by decide +kernel
theorem dX6_set_188 : decode cX6_set 188 = .ok (.iload_n 1, 1) := by decide +kernel
theorem dX6_set_189 : decode cX6_set 189 = .ok (.aload_n 0, 1) := by decide +kernel
theorem dX6_set_190 : decode cX6_set 190 = .ok (.getfield 34, 3) := by decide +kernel
theorem dX6_set_193 : decode cX6_set 193 = .ok (.iload 5, 2) := by decide +kernel
theorem dX6_set_195 : decode cX6_set 195 = .ok (.iaload, 1) := by decide +kernel
theorem dX6_set_196 : decode cX6_set 196 = .ok (.iconst 0, 1) := by decide +kernel
theorem dX6_set_197 : decode cX6_set 197 = .ok (.invokevirtual 142, 3) := by decide +kernel
theorem dX6_set_200 : decode cX6_set 200 = .ok (.i2l, 1) := by decide +kernel
theorem dX6_set_201 : decode cX6_set 201 = .ok (.ladd, 1) := by decide +kernel
theorem dX6_set_202 : decode cX6_set 202 = .ok (.putfield 166, 3) := by decide +kernel
theorem dX6_set_205 : decode cX6_set 205 = .ok (.iinc 5 1, 3) := by decide +kernel
theorem dX6_set_208 : decode cX6_set 208 = .ok (.goto (-77), 3) := by decide +kernel
theorem dX6_set_211 : decode cX6_set 211 = .ok (.aload_n 0, 1) := by decide +kernel
theorem dX6_set_212 : decode cX6_set 212 = .ok (.getfield 145, 3) := by decide +kernel
theorem dX6_set_215 : decode cX6_set 215 = .ok (.ireturn, 1) := by decide +kernel
theorem dX6_item_0 : decode cX6_item 0 = .ok (.aload_n 0, 1) := by decide +kernel
theorem dX6_item_1 : decode cX6_item 1 = .ok (.iconst 0, 1) := by decide +kernel
theorem dX6_item_2 : decode cX6_item 2 = .ok (.putfield 37, 3) := by decide +kernel
theorem dX6_item_5 : decode cX6_item 5 = .ok (.iload_n 1, 1) := by decide +kernel
theorem dX6_item_6 : decode cX6_item 6 = .ok (.ifCond .lt 20, 3) := by decide +kernel
theorem dX6_item_9 : decode cX6_item 9 = .ok (.iload_n 1, 1) := by decide +kernel
theorem dX6_item_10 : decode cX6_item 10 = .ok (.aload_n 0, 1) := by decide +kernel
theorem dX6_item_11 : decode cX6_item 11 = .ok (.getfield 145, 3) := by decide +kernel
theorem dX6_item_14 : decode cX6_item 14 = .ok (.if_icmp .ge 12, 3) := by decide +kernel
theorem dX6_item_17 : decode cX6_item 17 = .ok (.iload_n 2, 1) := by decide +kernel
theorem dX6_item_18 : decode cX6_item 18 = .ok (.ifCond .lt 8, 3) := by decide +kernel
theorem dX6_item_21 : decode cX6_item 21 = .ok (.iload_n 2, 1) := by decide +kernel
theorem dX6_item_22 : decode cX6_item 22 = .ok (.iconst 1, 1) := by decide +kernel
theorem dX6_item_23 : decode cX6_item 23 = .ok (.if_icmp .le 7, 3) := by decide +kernel
theorem dX6_item_26 : decode cX6_item 26 = .ok (.iconst (-1), 1) := by decide +kernel
theorem dX6_item_27 : decode cX6_item 27 = .ok (.goto 22, 3) := by decide +kernel
theorem dX6_item_30 : decode cX6_item 30 = .ok (.iload_n 2, 1) := by decide +kernel
theorem dX6_item_31 : decode cX6_item 31 = .ok (.ifCond .ne 12, 3) := by decide +kernel
theorem dX6_item_34 : decode cX6_item 34 = .ok (.aload_n 0, 1) := by decide +kernel
theorem dX6_item_35 : decode cX6_item 35 = .ok (.getfield 31, 3) := by decide +kernel
theorem dX6_item_38 : decode cX6_item 38 = .ok (.iload_n 1, 1) := by decide +kernel
theorem dX6_item_39 : decode cX6_item 39 = .ok (.iaload, 1) := by decide +kernel
theorem dX6_item_40 : decode cX6_item 40 = .ok (.goto 9, 3) := by decide +kernel
theorem dX6_item_43 : decode cX6_item 43 = .ok (.aload_n 0, 1) := by decide +kernel
theorem dX6_item_44 : decode cX6_item 44 = .ok (.getfield 34, 3) := by decide +kernel
theorem dX6_item_47 : decode cX6_item 47 = .ok (.iload_n 1, 1) := by decide +kernel
theorem dX6_item_48 : decode cX6_item 48 = .ok (.iaload, 1) := by decide +kernel
theorem dX6_item_49 : decode cX6_item 49 = .ok (.ireturn, 1) := by decide +kernel
theorem dX6_width_0 : decode cX6_width 0 = .ok (.aload_n 0, 1) := by decide +kernel
theorem dX6_width_1 : decode cX6_width 1 = .ok (.iconst 0, 1) := by decide +kernel
theorem dX6_width_2 : decode cX6_width 2 = .ok (.putfield 37, 3) := by decide +kernel
theorem dX6_width_5 : decode cX6_width 5 = .ok (.aload_n 0, 1) := by decide +kernel
theorem dX6_width_6 : decode cX6_width 6 = .ok (.getfield 166, 3) := by decide +kernel
theorem dX6_width_9 : decode cX6_width 9 = .ok (.lreturn, 1) := by decide +kernel
theorem dX6_count_0 : decode cX6_count 0 = .ok (.aload_n 0, 1) := by decide +kernel
theorem dX6_count_1 : decode cX6_count 1 = .ok (.iconst 0, 1) := by decide +kernel
theorem dX6_count_2 : decode cX6_count 2 = .ok (.putfield 37, 3) := by decide +kernel
theorem dX6_count_5 : decode cX6_count 5 = .ok (.iload_n 1, 1) := by decide +kernel
theorem dX6_count_6 : decode cX6_count 6 = .ok (.ifCond .eq 8, 3) := by decide +kernel
theorem dX6_count_9 : decode cX6_count 9 = .ok (.iload_n 1, 1) := by decide +kernel
theorem dX6_count_10 : decode cX6_count 10 = .ok (.iconst 1, 1) := by decide +kernel
theorem dX6_count_11 : decode cX6_count 11 = .ok (.if_icmp .ne 19, 3) := by decide +kernel
theorem dX6_count_14 : decode cX6_count 14 = .ok (.iload_n 1, 1) := by decide +kernel
theorem dX6_count_15 : decode cX6_count 15 = .ok (.ifCond .ne 10, 3) := by decide +kernel
theorem dX6_count_18 : decode cX6_count 18 = .ok (.aload_n 0, 1) := by decide +kernel
theorem dX6_count_19 : decode cX6_count 19 = .ok (.getfield 45, 3) := by decide +kernel
theorem dX6_count_22 : decode cX6_count 22 = .ok (.goto 7, 3) := by decide +kernel
theorem dX6_count_25 : decode cX6_count 25 = .ok (.aload_n 0, 1) := by decide +kernel
theorem dX6_count_26 : decode cX6_count 26 = .ok (.getfield 41, 3) := by decide +kernel
theorem dX6_count_29 : decode cX6_count 29 = .ok (.ireturn, 1) := by decide +kernel
theorem dX6_count_30 : decode cX6_count 30 = .ok (.iload_n 1, 1) := by decide +kernel
theorem dX6_count_31 : decode cX6_count 31 = .ok (.ifCond .lt 8, 3) := by decide +kernel
theorem dX6_count_34 : decode cX6_count 34 = .ok (.iload_n 1, 1) := by decide +kernel
theorem dX6_count_35 : decode cX6_count 35 = .ok (.iconst 5, 1) := by decide +kernel
theorem dX6_count_36 : decode cX6_count 36 = .ok (.if_icmp .le 5, 3) := by decide +kernel
theorem dX6_count_39 : decode cX6_count 39 = .ok (.iconst (-1), 1) := by decide +kernel
theorem dX6_count_40 : decode cX6_count 40 = .ok (.ireturn, 1) := by decide +kernel
theorem dX6_count_41 : decode cX6_count 41 = .ok (.aload_n 0, 1) := by decide +kernel
theorem dX6_count_42 : decode cX6_count 42 = .ok (.getfield 45, 3) := by decide +kernel
theorem dX6_count_45 : decode cX6_count 45 = .ok (.ifCond .ne 5, 3) := by decide +kernel
theorem dX6_count_48 : decode cX6_count 48 = .ok (.iconst 0, 1) := by decide +kernel
theorem dX6_count_49 : decode cX6_count 49 = .ok (.ireturn, 1) := by decide +kernel
theorem dX6_count_50 : decode cX6_count 50 = .ok (.aload_n 0, 1) := by decide +kernel
theorem dX6_count_51 : decode cX6_count 51 = .ok (.aload_n 0, 1) := by decide +kernel
theorem dX6_count_52 : decode cX6_count 52 = .ok (.getfield 45, 3) := by decide +kernel
theorem dX6_count_55 : decode cX6_count 55 = .ok (.iconst 1, 1) := by decide +kernel
theorem dX6_count_56 : decode cX6_count 56 = .ok (.isub, 1) := by decide +kernel
theorem dX6_count_57 : decode cX6_count 57 = .ok (.invokevirtual 139, 3) := by decide +kernel
theorem dX6_count_60 : decode cX6_count 60 = .ok (.istore_n 2, 1) := by decide +kernel
theorem dX6_count_61 : decode cX6_count 61 = .ok (.iconst 0, 1) := by decide +kernel
theorem dX6_count_62 : decode cX6_count 62 = .ok (.istore_n 3, 1) := by decide +kernel
theorem dX6_count_63 : decode cX6_count 63 = .ok (.aload_n 0, 1) := by decide +kernel
theorem dX6_count_64 : decode cX6_count 64 = .ok (.iconst 2, 1) := by decide +kernel
theorem dX6_count_65 : decode cX6_count 65 = .ok (.invokevirtual 57, 3) := by decide +kernel
theorem dX6_count_68 : decode cX6_count 68 = .ok (.istore 4, 2) := by decide +kernel
theorem dX6_count_70 : decode cX6_count 70 = .ok (.iload 4, 2) := by decide +kernel
theorem dX6_count_72 : decode cX6_count 72 = .ok (.aload_n 0, 1) := by decide +kernel
theorem dX6_count_73 : decode cX6_count 73 = .ok (.iconst 3, 1) := by decide +kernel
theorem dX6_count_74 : decode cX6_count 74 = .ok (.invokevirtual 57, 3) := by decide +kernel
theorem dX6_count_77 : decode cX6_count 77 = .ok (.if_icmp .gt 26, 3) := by decide +kernel
theorem dX6_count_80 : decode cX6_count 80 = .ok (.iload_n 3, 1) := by decide +kernel
theorem dX6_count_81 : decode cX6_count 81 = .ok (.aload_n 0, 1) := by decide +kernel
theorem dX6_count_82 : decode cX6_count 82 = .ok (.iload 4, 2) := by decide +kernel
theorem dX6_count_84 : decode cX6_count 84 = .ok (.invokevirtual 76, 3) := by decide +kernel
theorem dX6_count_87 : decode cX6_count 87 = .ok (.ifCond .eq 7, 3) := by decide +kernel
theorem dX6_count_90 : decode cX6_count 90 = .ok (.iconst 1, 1) := by decide +kernel
theorem dX6_count_91 : decode cX6_count 91 = .ok (.goto 4, 3) := by decide +kernel
theorem dX6_count_94 : decode cX6_count 94 = .ok (.iconst 0, 1) := by decide +kernel
theorem dX6_count_95 : decode cX6_count 95 = .ok (.iadd, 1) := by decide +kernel
theorem dX6_count_96 : decode cX6_count 96 = .ok (.istore_n 3, 1) := by decide +kernel
theorem dX6_count_97 : decode cX6_count 97 = .ok (.iinc 4 1, 3) := by decide +kernel
theorem dX6_count_100 : decode cX6_count 100 = .ok (.goto (-30), 3) := by decide +kernel
theorem dX6_count_103 : decode cX6_count 103 = .ok (.iload_n 1, 1) := by decide +kernel
theorem dX6_count_104 : decode cX6_count 104 = .ok (.iconst 2, 1) := by decide +kernel
theorem dX6_count_105 : decode cX6_count 105 = .ok (.if_icmp .ne 11, 3) := by decide +kernel
theorem dX6_count_108 : decode cX6_count 108 = .ok (.aload_n 0, 1) := by decide +kernel
theorem dX6_count_109 : decode cX6_count 109 = .ok (.iconst 0, 1) := by decide +kernel
theorem dX6_count_110 : decode cX6_count 110 = .ok (.invokevirtual 57, 3) := by decide +kernel
theorem dX6_count_113 : decode cX6_count 113 = .ok (.goto 35, 3) := by decide +kernel
theorem dX6_count_116 : decode cX6_count 116 = .ok (.iload_n 1, 1) := by decide +kernel
theorem dX6_count_117 : decode cX6_count 117 = .ok (.iconst 3, 1) := by decide +kernel
theorem dX6_count_118 : decode cX6_count 118 = .ok (.if_icmp .ne 7, 3) := by decide +kernel
theorem dX6_count_121 : decode cX6_count 121 = .ok (.iload_n 3, 1) := by decide +kernel
theorem dX6_count_122 : decode cX6_count 122 = .ok (.goto 26, 3) := by decide +kernel
theorem dX6_count_125 : decode cX6_count 125 = .ok (.iload_n 1, 1) := by decide +kernel
theorem dX6_count_126 : decode cX6_count 126 = .ok (.iconst 4, 1) := by decide +kernel
theorem dX6_count_127 : decode cX6_count 127 = .ok (.if_icmp .ne 17, 3) := by decide +kernel
theorem dX6_count_130 : decode cX6_count 130 = .ok (.aload_n 0, 1) := by decide +kernel
theorem dX6_count_131 : decode cX6_count 131 = .ok (.getfield 17, 3) := by decide +kernel
theorem dX6_count_134 : decode cX6_count 134 = .ok (.aload_n 0, 1) := by decide +kernel
theorem dX6_count_135 : decode cX6_count 135 = .ok (.getfield 45, 3) := by decide +kernel
theorem dX6_count_138 : decode cX6_count 138 = .ok (.iconst 1, 1) := by decide +kernel
theorem dX6_count_139 : decode cX6_count 139 = .ok (.isub, 1) := by decide +kernel
theorem dX6_count_140 : decode cX6_count 140 = .ok (.iaload, 1) := by decide +kernel
theorem dX6_count_141 : decode cX6_count 141 = .ok (.goto 7, 3) := by decide +kernel
theorem dX6_count_144 : decode cX6_count 144 = .ok (.aload_n 0, 1) := by decide +kernel
theorem dX6_count_145 : decode cX6_count 145 = .ok (.invokevirtual 91, 3) := by decide +kernel
theorem dX6_count_148 : decode cX6_count 148 = .ok (.ireturn, 1) := by decide +kernel
theorem dJ9_max_7cf53_0 : decode cJ9_max_7cf53 0 = .ok (.iload_n 0, 1) := by decide +kernel
theorem dJ9_max_7cf53_1 : decode cJ9_max_7cf53 1 = .ok (.iload_n 1, 1) := by decide +kernel
theorem dJ9_max_7cf53_2 : decode cJ9_max_7cf53 2 = .ok (.if_icmp .lt 7, 3) := by decide +kernel
theorem dJ9_max_7cf53_5 : decode cJ9_max_7cf53 5 = .ok (.iload_n 0, 1) := by decide +kernel
theorem dJ9_max_7cf53_6 : decode cJ9_max_7cf53 6 = .ok (.goto 4, 3) := by decide +kernel
theorem dJ9_max_7cf53_9 : decode cJ9_max_7cf53 9 = .ok (.iload_n 1, 1) := by decide +kernel
theorem dJ9_max_7cf53_10 : decode cJ9_max_7cf53 10 = .ok (.ireturn, 1) := by decide +kernel
theorem dJ9_min_7cf53_0 : decode cJ9_min_7cf53 0 = .ok (.iload_n 0, 1) := by decide +kernel
theorem dJ9_min_7cf53_1 : decode cJ9_min_7cf53 1 = .ok (.iload_n 1, 1) := by decide +kernel
theorem dJ9_min_7cf53_2 : decode cJ9_min_7cf53 2 = .ok (.if_icmp .gt 7, 3) := by decide +kernel
theorem dJ9_min_7cf53_5 : decode cJ9_min_7cf53 5 = .ok (.iload_n 0, 1) := by decide +kernel
theorem dJ9_min_7cf53_6 : decode cJ9_min_7cf53 6 = .ok (.goto 4, 3) := by decide +kernel
theorem dJ9_min_7cf53_9 : decode cJ9_min_7cf53 9 = .ok (.iload_n 1, 1) := by decide +kernel
theorem dJ9_min_7cf53_10 : decode cJ9_min_7cf53 10 = .ok (.ireturn, 1) := by decide +kernel
theorem dJ7_copyOf_9075b_0 : decode cJ7_copyOf_9075b 0 = .ok (.iload_n 1, 1) := by decide +kernel
theorem dJ7_copyOf_9075b_1 : decode cJ7_copyOf_9075b 1 = .ok (.aload_n 0, 1) := by decide +kernel
theorem dJ7_copyOf_9075b_2 : decode cJ7_copyOf_9075b 2 = .ok (.arraylength, 1) := by decide +kernel
theorem dJ7_copyOf_9075b_3 : decode cJ7_copyOf_9075b 3 = .ok (.if_icmp .ne 11, 3) := by decide +kernel
theorem dJ7_copyOf_9075b_6 : decode cJ7_copyOf_9075b 6 = .ok (.aload_n 0, 1) := by decide +kernel
theorem dJ7_copyOf_9075b_7 : decode cJ7_copyOf_9075b 7 = .ok (.invokevirtual 310, 3) := by decide +kernel
theorem dJ7_copyOf_9075b_10 : decode cJ7_copyOf_9075b 10 = .ok (.checkcast 311, 3) := by decide +kernel
theorem dJ7_copyOf_9075b_13 : decode cJ7_copyOf_9075b 13 = .ok (.areturn, 1) := by decide +kernel
theorem dJ7_copyOf_9075b_14 : decode cJ7_copyOf_9075b 14 = .ok (.iload_n 1, 1) := by decide +kernel
theorem dJ7_copyOf_9075b_15 : decode cJ7_copyOf_9075b 15 = .ok (.newarray .byte, 2) := by decide +kernel
theorem dJ7_copyOf_9075b_17 : decode cJ7_copyOf_9075b 17 = .ok (.astore_n 2, 1) := by decide +kernel
theorem dJ7_copyOf_9075b_18 : decode cJ7_copyOf_9075b 18 = .ok (.aload_n 0, 1) := by decide +kernel
theorem dJ7_copyOf_9075b_19 : decode cJ7_copyOf_9075b 19 = .ok (.iconst 0, 1) := by decide +kernel
theorem dJ7_copyOf_9075b_20 : decode cJ7_copyOf_9075b 20 = .ok (.aload_n 2, 1) := by decide +kernel
theorem dJ7_copyOf_9075b_21 : decode cJ7_copyOf_9075b 21 = .ok (.iconst 0, 1) := by decide +kernel
theorem dJ7_copyOf_9075b_22 : decode cJ7_copyOf_9075b 22 = .ok (.aload_n 0, 1) := by decide +kernel
theorem dJ7_copyOf_9075b_23 : decode cJ7_copyOf_9075b 23 = .ok (.arraylength, 1) := by decide +kernel
theorem dJ7_copyOf_9075b_24 : decode cJ7_copyOf_9075b 24 = .ok (.iload_n 1, 1) := by decide +kernel
theorem dJ7_copyOf_9075b_25 : decode cJ7_copyOf_9075b 25 = .ok (.invokestatic 304, 3) := by decide +kernel
theorem dJ7_copyOf_9075b_28 : decode cJ7_copyOf_9075b 28 = .ok (.invokestatic 150, 3) := by decide +kernel
theorem dJ7_copyOf_9075b_31 : decode cJ7_copyOf_9075b 31 = .ok (.aload_n 2, 1) := by decide +kernel
theorem dJ7_copyOf_9075b_32 : decode cJ7_copyOf_9075b 32 = .ok (.areturn, 1) := by decide +kernel
theorem dL_load_0 : decode cL_load 0 = .ok (.aload_n 2, 1) := by decide +kernel
theorem dL_load_1 : decode cL_load 1 = .ok (.iconst 0, 1) := by decide +kernel
theorem dL_load_2 : decode cL_load 2 = .ok (.aload_n 0, 1) := by decide +kernel
theorem dL_load_3 : decode cL_load 3 = .ok (.iload_n 1, 1) := by decide +kernel
theorem dL_load_4 : decode cL_load 4 = .ok (.invokevirtual 7, 3) := by decide +kernel
theorem dL_load_7 : decode cL_load 7 = .ok (.i2l, 1) := by decide +kernel
theorem dL_load_8 : decode cL_load 8 = .ok (.lastore, 1) := by decide +kernel
theorem dL_load_9 : decode cL_load 9 = .ok (.goto 9, 3) := by decide +kernel
theorem dL_load_12 : decode cL_load 12 = .ok (.astore_n 3, 1) := by decide +kernel
theorem dL_load_13 : decode cL_load 13 = .ok (.iconst 1, 1) := by decide +kernel
theorem dL_load_14 : decode cL_load 14 = .ok (.ireturn, 1) := by decide +kernel
theorem dL_load_15 : decode cL_load 15 = .ok (.astore_n 3, 1) := by decide +kernel
theorem dL_load_16 : decode cL_load 16 = .ok (.iconst 2, 1) := by decide +kernel
theorem dL_load_17 : decode cL_load 17 = .ok (.ireturn, 1) := by decide +kernel
theorem dL_load_18 : decode cL_load 18 = .ok (.iconst 0, 1) := by decide +kernel
theorem dL_load_19 : decode cL_load 19 = .ok (.ireturn, 1) := by decide +kernel
theorem dL_metric_0 : decode cL_metric 0 = .ok (.aload 4, 2) := by decide +kernel
theorem dL_metric_2 : decode cL_metric 2 = .ok (.iconst 0, 1) := by decide +kernel
theorem dL_metric_3 : decode cL_metric 3 = .ok (.aload_n 0, 1) := by decide +kernel
theorem dL_metric_4 : decode cL_metric 4 = .ok (.iload_n 1, 1) := by decide +kernel
theorem dL_metric_5 : decode cL_metric 5 = .ok (.iload_n 2, 1) := by decide +kernel
theorem dL_metric_6 : decode cL_metric 6 = .ok (.iload_n 3, 1) := by decide +kernel
theorem dL_metric_7 : decode cL_metric 7 = .ok (.invokevirtual 17, 3) := by decide +kernel
theorem dL_metric_10 : decode cL_metric 10 = .ok (.i2l, 1) := by decide +kernel
theorem dL_metric_11 : decode cL_metric 11 = .ok (.lastore, 1) := by decide +kernel
theorem dL_metric_12 : decode cL_metric 12 = .ok (.goto 7, 3) := by decide +kernel
theorem dL_metric_15 : decode cL_metric 15 = .ok (.astore 5, 2) := by decide +kernel
theorem dL_metric_17 : decode cL_metric 17 = .ok (.iconst 1, 1) := by decide +kernel
theorem dL_metric_18 : decode cL_metric 18 = .ok (.ireturn, 1) := by decide +kernel
theorem dL_metric_19 : decode cL_metric 19 = .ok (.iconst 0, 1) := by decide +kernel
theorem dL_metric_20 : decode cL_metric 20 = .ok (.ireturn, 1) := by decide +kernel
theorem dL_parameter_0 : decode cL_parameter 0 = .ok (.aload_n 3, 1) := by decide +kernel
theorem dL_parameter_1 : decode cL_parameter 1 = .ok (.iconst 0, 1) := by decide +kernel
theorem dL_parameter_2 : decode cL_parameter 2 = .ok (.aload_n 0, 1) := by decide +kernel
theorem dL_parameter_3 : decode cL_parameter 3 = .ok (.iload_n 1, 1) := by decide +kernel
theorem dL_parameter_4 : decode cL_parameter 4 = .ok (.iload_n 2, 1) := by decide +kernel
theorem dL_parameter_5 : decode cL_parameter 5 = .ok (.invokevirtual 23, 3) := by decide +kernel
theorem dL_parameter_8 : decode cL_parameter 8 = .ok (.i2l, 1) := by decide +kernel
theorem dL_parameter_9 : decode cL_parameter 9 = .ok (.lastore, 1) := by decide +kernel
theorem dL_parameter_10 : decode cL_parameter 10 = .ok (.goto 7, 3) := by decide +kernel
theorem dL_parameter_13 : decode cL_parameter 13 = .ok (.astore 4, 2) := by decide +kernel
theorem dL_parameter_15 : decode cL_parameter 15 = .ok (.iconst 1, 1) := by decide +kernel
theorem dL_parameter_16 : decode cL_parameter 16 = .ok (.ireturn, 1) := by decide +kernel
theorem dL_parameter_17 : decode cL_parameter 17 = .ok (.iconst 0, 1) := by decide +kernel
theorem dL_parameter_18 : decode cL_parameter 18 = .ok (.ireturn, 1) := by decide +kernel
theorem dL_set_0 : decode cL_set 0 = .ok (.aload_n 2, 1) := by decide +kernel
theorem dL_set_1 : decode cL_set 1 = .ok (.iconst 0, 1) := by decide +kernel
theorem dL_set_2 : decode cL_set 2 = .ok (.aload_n 0, 1) := by decide +kernel
theorem dL_set_3 : decode cL_set 3 = .ok (.iload_n 1, 1) := by decide +kernel
theorem dL_set_4 : decode cL_set 4 = .ok (.invokevirtual 27, 3) := by decide +kernel
theorem dL_set_7 : decode cL_set 7 = .ok (.i2l, 1) := by decide +kernel
theorem dL_set_8 : decode cL_set 8 = .ok (.lastore, 1) := by decide +kernel
theorem dL_set_9 : decode cL_set 9 = .ok (.goto 12, 3) := by decide +kernel
theorem dL_set_12 : decode cL_set 12 = .ok (.astore_n 3, 1) := by decide +kernel
theorem dL_set_13 : decode cL_set 13 = .ok (.iconst 1, 1) := by decide +kernel
theorem dL_set_14 : decode cL_set 14 = .ok (.ireturn, 1) := by decide +kernel
theorem dL_set_15 : decode cL_set 15 = .ok (.astore_n 3, 1) := by decide +kernel
theorem dL_set_16 : decode cL_set 16 = .ok (.iconst 2, 1) := by decide +kernel
theorem dL_set_17 : decode cL_set 17 = .ok (.ireturn, 1) := by decide +kernel
theorem dL_set_18 : decode cL_set 18 = .ok (.astore_n 3, 1) := by decide +kernel
theorem dL_set_19 : decode cL_set 19 = .ok (.iconst 3, 1) := by decide +kernel
theorem dL_set_20 : decode cL_set 20 = .ok (.ireturn, 1) := by decide +kernel
theorem dL_set_21 : decode cL_set 21 = .ok (.iconst 0, 1) := by decide +kernel
theorem dL_set_22 : decode cL_set 22 = .ok (.ireturn, 1) := by decide +kernel
theorem dL_law_0 : decode cL_law 0 = .ok (.new 8, 3) := by decide +kernel
theorem dL_law_3 : decode cL_law 3 = .ok (.dup, 1) := by decide +kernel
theorem dL_law_4 : decode cL_law 4 = .ok (.invokespecial 30, 3) := by decide +kernel
theorem dL_law_7 : decode cL_law 7 = .ok (.astore_n 1, 1) := by decide +kernel
theorem dL_law_8 : decode cL_law 8 = .ok (.new 31, 3) := by decide +kernel
theorem dL_law_11 : decode cL_law 11 = .ok (.dup, 1) := by decide +kernel
theorem dL_law_12 : decode cL_law 12 = .ok (.invokespecial 33, 3) := by decide +kernel
theorem dL_law_15 : decode cL_law 15 = .ok (.astore_n 2, 1) := by decide +kernel
theorem dL_law_16 : decode cL_law 16 = .ok (.iconst 1, 1) := by decide +kernel
theorem dL_law_17 : decode cL_law 17 = .ok (.newarray .long, 2) := by decide +kernel
theorem dL_law_19 : decode cL_law 19 = .ok (.astore_n 3, 1) := by decide +kernel
theorem dL_law_20 : decode cL_law 20 = .ok (.iconst 0, 1) := by decide +kernel
theorem dL_law_21 : decode cL_law 21 = .ok (.istore 4, 2) := by decide +kernel
theorem dL_law_23 : decode cL_law 23 = .ok (.iload 4, 2) := by decide +kernel
theorem dL_law_25 : decode cL_law 25 = .ok (.aload_n 0, 1) := by decide +kernel
theorem dL_law_26 : decode cL_law 26 = .ok (.arraylength, 1) := by decide +kernel
theorem dL_law_27 : decode cL_law 27 = .ok (.iconst 4, 1) := by decide +kernel
theorem dL_law_28 : decode cL_law 28 = .ok (.isub, 1) := by decide +kernel
theorem dL_law_29 : decode cL_law 29 = .ok (.if_icmp .gt 483, 3) := by decide +kernel
theorem dL_law_32 : decode cL_law 32 = .ok (.aload_n 0, 1) := by decide +kernel
theorem dL_law_33 : decode cL_law 33 = .ok (.iload 4, 2) := by decide +kernel
theorem dL_law_35 : decode cL_law 35 = .ok (.iaload, 1) := by decide +kernel
theorem dL_law_36 : decode cL_law 36 = .ok (.bipush 15, 2) := by decide +kernel
theorem dL_law_38 : decode cL_law 38 = .ok (.iand, 1) := by decide +kernel
theorem dL_law_39 : decode cL_law 39 = .ok (.tableswitch 467 0 8 #[49, 118, 174, 187, 267, 335, 391, 428, 442], 49) := by decide +kernel
theorem dL_law_88 : decode cL_law 88 = .ok (.aload_n 1, 1) := by decide +kernel
theorem dL_law_89 : decode cL_law 89 = .ok (.aload_n 0, 1) := by decide +kernel
theorem dL_law_90 : decode cL_law 90 = .ok (.iload 4, 2) := by decide +kernel
theorem dL_law_92 : decode cL_law 92 = .ok (.iconst 1, 1) := by decide +kernel
theorem dL_law_93 : decode cL_law 93 = .ok (.iadd, 1) := by decide +kernel
theorem dL_law_94 : decode cL_law 94 = .ok (.iaload, 1) := by decide +kernel
theorem dL_law_95 : decode cL_law 95 = .ok (.i2l, 1) := by decide +kernel
theorem dL_law_96 : decode cL_law 96 = .ok (.bipush 32, 2) := by decide +kernel
theorem dL_law_98 : decode cL_law 98 = .ok (.lshl, 1) := by decide +kernel
theorem dL_law_99 : decode cL_law 99 = .ok (.aload_n 0, 1) := by decide +kernel
theorem dL_law_100 : decode cL_law 100 = .ok (.iload 4, 2) := by decide +kernel
theorem dL_law_102 : decode cL_law 102 = .ok (.iconst 2, 1) := by decide +kernel
theorem dL_law_103 : decode cL_law 103 = .ok (.iadd, 1) := by decide +kernel
theorem dL_law_104 : decode cL_law 104 = .ok (.iaload, 1) := by decide +kernel
theorem dL_law_105 : decode cL_law 105 = .ok (.i2l, 1) := by decide +kernel
theorem dL_law_106 : decode cL_law 106 = .ok (.ldc2_w 34, 3) := by decide +kernel
theorem dL_law_109 : decode cL_law 109 = .ok (.land, 1) := by decide +kernel
theorem dL_law_110 : decode cL_law 110 = .ok (.lor, 1) := by decide +kernel
theorem dL_law_111 : decode cL_law 111 = .ok (.aload_n 0, 1) := by decide +kernel
theorem dL_law_112 : decode cL_law 112 = .ok (.iload 4, 2) := by decide +kernel
theorem dL_law_114 : decode cL_law 114 = .ok (.iconst 3, 1) := by decide +kernel
theorem dL_law_115 : decode cL_law 115 = .ok (.iadd, 1) := by decide +kernel
theorem dL_law_116 : decode cL_law 116 = .ok (.iaload, 1) := by decide +kernel
theorem dL_law_117 : decode cL_law 117 = .ok (.invokevirtual 36, 3) := by decide +kernel
theorem dL_law_120 : decode cL_law 120 = .ok (.aload_n 2, 1) := by decide +kernel
theorem dL_law_121 : decode cL_law 121 = .ok (.aload_n 0, 1) := by decide +kernel
theorem dL_law_122 : decode cL_law 122 = .ok (.iload 4, 2) := by decide +kernel
theorem dL_law_124 : decode cL_law 124 = .ok (.iconst 1, 1) := by decide +kernel
theorem dL_law_125 : decode cL_law 125 = .ok (.iadd, 1) := by decide +kernel
theorem dL_law_126 : decode cL_law 126 = .ok (.iaload, 1) := by decide +kernel
theorem dL_law_127 : decode cL_law 127 = .ok (.i2l, 1) := by decide +kernel
theorem dL_law_128 : decode cL_law 128 = .ok (.bipush 32, 2) := by decide +kernel
theorem dL_law_130 : decode cL_law 130 = .ok (.lshl, 1) := by decide +kernel
theorem dL_law_131 : decode cL_law 131 = .ok (.aload_n 0, 1) := by decide +kernel
theorem dL_law_132 : decode cL_law 132 = .ok (.iload 4, 2) := by decide +kernel
theorem dL_law_134 : decode cL_law 134 = .ok (.iconst 2, 1) := by decide +kernel
theorem dL_law_135 : decode cL_law 135 = .ok (.iadd, 1) := by decide +kernel
theorem dL_law_136 : decode cL_law 136 = .ok (.iaload, 1) := by decide +kernel
theorem dL_law_137 : decode cL_law 137 = .ok (.i2l, 1) := by decide +kernel
theorem dL_law_138 : decode cL_law 138 = .ok (.ldc2_w 34, 3) := by decide +kernel
theorem dL_law_141 : decode cL_law 141 = .ok (.land, 1) := by decide +kernel
theorem dL_law_142 : decode cL_law 142 = .ok (.lor, 1) := by decide +kernel
theorem dL_law_143 : decode cL_law 143 = .ok (.aload_n 0, 1) := by decide +kernel
theorem dL_law_144 : decode cL_law 144 = .ok (.iload 4, 2) := by decide +kernel
theorem dL_law_146 : decode cL_law 146 = .ok (.iconst 3, 1) := by decide +kernel
theorem dL_law_147 : decode cL_law 147 = .ok (.iadd, 1) := by decide +kernel
theorem dL_law_148 : decode cL_law 148 = .ok (.iaload, 1) := by decide +kernel
theorem dL_law_149 : decode cL_law 149 = .ok (.invokevirtual 40, 3) := by decide +kernel
theorem dL_law_152 : decode cL_law 152 = .ok (.if_icmp .eq 354, 3) := by decide +kernel
theorem dL_law_155 : decode cL_law 155 = .ok (.iconst 0, 1) := by decide +kernel
theorem dL_law_156 : decode cL_law 156 = .ok (.ireturn, 1) := by decide +kernel
theorem dL_law_157 : decode cL_law 157 = .ok (.aload_n 1, 1) := by decide +kernel
theorem dL_law_158 : decode cL_law 158 = .ok (.aload_n 0, 1) := by decide +kernel
theorem dL_law_159 : decode cL_law 159 = .ok (.iload 4, 2) := by decide +kernel
theorem dL_law_161 : decode cL_law 161 = .ok (.iconst 1, 1) := by decide +kernel
