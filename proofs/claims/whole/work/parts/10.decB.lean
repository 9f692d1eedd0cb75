theorem dN_init_0 : decode cN_init 0 = .ok (.aload_n 0, 1) := by decide +kernel
theorem dN_init_1 : decode cN_init 1 = .ok (.invokespecial 1, 3) := by decide +kernel
theorem dN_init_4 : decode cN_init 4 = .ok (.aload_n 0, 1) := by decide +kernel
theorem dN_init_5 : decode cN_init 5 = .ok (.bipush 40, 2) := by decide +kernel
theorem dN_init_7 : decode cN_init 7 = .ok (.newarray .int, 2) := by decide +kernel
theorem dN_init_9 : decode cN_init 9 = .ok (.putfield 7, 3) := by decide +kernel
theorem dN_init_12 : decode cN_init 12 = .ok (.aload_n 0, 1) := by decide +kernel
theorem dN_init_13 : decode cN_init 13 = .ok (.bipush 40, 2) := by decide +kernel
theorem dN_init_15 : decode cN_init 15 = .ok (.newarray .int, 2) := by decide +kernel
theorem dN_init_17 : decode cN_init 17 = .ok (.putfield 13, 3) := by decide +kernel
theorem dN_init_20 : decode cN_init 20 = .ok (.aload_n 0, 1) := by decide +kernel
theorem dN_init_21 : decode cN_init 21 = .ok (.bipush 40, 2) := by decide +kernel
theorem dN_init_23 : decode cN_init 23 = .ok (.newarray .int, 2) := by decide +kernel
theorem dN_init_25 : decode cN_init 25 = .ok (.putfield 16, 3) := by decide +kernel
theorem dN_init_28 : decode cN_init 28 = .ok (.aload_n 0, 1) := by decide +kernel
theorem dN_init_29 : decode cN_init 29 = .ok (.sipush 240, 3) := by decide +kernel
theorem dN_init_32 : decode cN_init 32 = .ok (.newarray .int, 2) := by decide +kernel
theorem dN_init_34 : decode cN_init 34 = .ok (.putfield 19, 3) := by decide +kernel
theorem dN_init_37 : decode cN_init 37 = .ok (.aload_n 0, 1) := by decide +kernel
theorem dN_init_38 : decode cN_init 38 = .ok (.bipush 40, 2) := by decide +kernel
theorem dN_init_40 : decode cN_init 40 = .ok (.newarray .int, 2) := by decide +kernel
theorem dN_init_42 : decode cN_init 42 = .ok (.putfield 22, 3) := by decide +kernel
theorem dN_init_45 : decode cN_init 45 = .ok (.aload_n 0, 1) := by decide +kernel
theorem dN_init_46 : decode cN_init 46 = .ok (.bipush 120, 2) := by decide +kernel
theorem dN_init_48 : decode cN_init 48 = .ok (.newarray .boolean, 2) := by decide +kernel
theorem dN_init_50 : decode cN_init 50 = .ok (.putfield 25, 3) := by decide +kernel
theorem dN_init_53 : decode cN_init 53 = .ok (.aload_n 0, 1) := by decide +kernel
theorem dN_init_54 : decode cN_init 54 = .ok (.bipush 6, 2) := by decide +kernel
theorem dN_init_56 : decode cN_init 56 = .ok (.newarray .int, 2) := by decide +kernel
theorem dN_init_58 : decode cN_init 58 = .ok (.putfield 29, 3) := by decide +kernel
theorem dN_init_61 : decode cN_init 61 = .ok (.aload_n 0, 1) := by decide +kernel
theorem dN_init_62 : decode cN_init 62 = .ok (.bipush 6, 2) := by decide +kernel
theorem dN_init_64 : decode cN_init 64 = .ok (.newarray .int, 2) := by decide +kernel
theorem dN_init_66 : decode cN_init 66 = .ok (.putfield 32, 3) := by decide +kernel
theorem dN_init_69 : decode cN_init 69 = .ok (.aload_n 0, 1) := by decide +kernel
theorem dN_init_70 : decode cN_init 70 = .ok (.sipush 240, 3) := by decide +kernel
theorem dN_init_73 : decode cN_init 73 = .ok (.newarray .int, 2) := by decide +kernel
theorem dN_init_75 : decode cN_init 75 = .ok (.putfield 35, 3) := by decide +kernel
theorem dN_init_78 : decode cN_init 78 = .ok (.aload_n 0, 1) := by decide +kernel
theorem dN_init_79 : decode cN_init 79 = .ok (.bipush 9, 2) := by decide +kernel
theorem dN_init_81 : decode cN_init 81 = .ok (.newarray .int, 2) := by decide +kernel
theorem dN_init_83 : decode cN_init 83 = .ok (.putfield 38, 3) := by decide +kernel
theorem dN_init_86 : decode cN_init 86 = .ok (.aload_n 0, 1) := by decide +kernel
theorem dN_init_87 : decode cN_init 87 = .ok (.sipush 360, 3) := by decide +kernel
theorem dN_init_90 : decode cN_init 90 = .ok (.newarray .int, 2) := by decide +kernel
theorem dN_init_92 : decode cN_init 92 = .ok (.putfield 41, 3) := by decide +kernel
theorem dN_init_95 : decode cN_init 95 = .ok (.aload_n 0, 1) := by decide +kernel
theorem dN_init_96 : decode cN_init 96 = .ok (.bipush 36, 2) := by decide +kernel
theorem dN_init_98 : decode cN_init 98 = .ok (.newarray .int, 2) := by decide +kernel
theorem dN_init_100 : decode cN_init 100 = .ok (.putfield 44, 3) := by decide +kernel
theorem dN_init_103 : decode cN_init 103 = .ok (.aload_n 0, 1) := by decide +kernel
theorem dN_init_104 : decode cN_init 104 = .ok (.bipush 6, 2) := by decide +kernel
theorem dN_init_106 : decode cN_init 106 = .ok (.newarray .int, 2) := by decide +kernel
theorem dN_init_108 : decode cN_init 108 = .ok (.putfield 47, 3) := by decide +kernel
theorem dN_init_111 : decode cN_init 111 = .ok (.aload_n 0, 1) := by decide +kernel
theorem dN_init_112 : decode cN_init 112 = .ok (.bipush 6, 2) := by decide +kernel
theorem dN_init_114 : decode cN_init 114 = .ok (.newarray .int, 2) := by decide +kernel
theorem dN_init_116 : decode cN_init 116 = .ok (.putfield 50, 3) := by decide +kernel
theorem dN_init_119 : decode cN_init 119 = .ok (.aload_n 0, 1) := by decide +kernel
theorem dN_init_120 : decode cN_init 120 = .ok (.bipush 6, 2) := by decide +kernel
theorem dN_init_122 : decode cN_init 122 = .ok (.newarray .int, 2) := by decide +kernel
theorem dN_init_124 : decode cN_init 124 = .ok (.putfield 53, 3) := by decide +kernel
theorem dN_init_127 : decode cN_init 127 = .ok (.aload_n 0, 1) := by decide +kernel
theorem dN_init_128 : decode cN_init 128 = .ok (.bipush 6, 2) := by decide +kernel
theorem dN_init_130 : decode cN_init 130 = .ok (.newarray .int, 2) := by decide +kernel
theorem dN_init_132 : decode cN_init 132 = .ok (.putfield 56, 3) := by decide +kernel
theorem dN_init_135 : decode cN_init 135 = .ok (.aload_n 0, 1) := by decide +kernel
theorem dN_init_136 : decode cN_init 136 = .ok (.bipush 36, 2) := by decide +kernel
theorem dN_init_138 : decode cN_init 138 = .ok (.newarray .int, 2) := by decide +kernel
theorem dN_init_140 : decode cN_init 140 = .ok (.putfield 59, 3) := by decide +kernel
theorem dN_init_143 : decode cN_init 143 = .ok (.aload_n 0, 1) := by decide +kernel
theorem dN_init_144 : decode cN_init 144 = .ok (.bipush 36, 2) := by decide +kernel
theorem dN_init_146 : decode cN_init 146 = .ok (.newarray .int, 2) := by decide +kernel
theorem dN_init_148 : decode cN_init 148 = .ok (.putfield 62, 3) := by decide +kernel
theorem dN_init_151 : decode cN_init 151 = .ok (.return_, 1) := by decide +kernel
theorem dN_out_0 : decode cN_out 0 = .ok (.iload_n 0, 1) := by decide +kernel
theorem dN_out_1 : decode cN_out 1 = .ok (.ifCond .lt 8, 3) := by decide +kernel
theorem dN_out_4 : decode cN_out 4 = .ok (.iload_n 0, 1) := by decide +kernel
theorem dN_out_5 : decode cN_out 5 = .ok (.iload_n 1, 1) := by decide +kernel
theorem dN_out_6 : decode cN_out 6 = .ok (.if_icmp .lt 7, 3) := by decide +kernel
theorem dN_out_9 : decode cN_out 9 = .ok (.iconst 1, 1) := by decide +kernel
theorem dN_out_10 : decode cN_out 10 = .ok (.goto 4, 3) := by decide +kernel
theorem dN_out_13 : decode cN_out 13 = .ok (.iconst 0, 1) := by decide +kernel
theorem dN_out_14 : decode cN_out 14 = .ok (.ireturn, 1) := by decide +kernel
theorem dN_count_0 : decode cN_count 0 = .ok (.iconst 0, 1) := by decide +kernel
theorem dN_count_1 : decode cN_count 1 = .ok (.istore_n 1, 1) := by decide +kernel
theorem dN_count_2 : decode cN_count 2 = .ok (.iconst 0, 1) := by decide +kernel
theorem dN_count_3 : decode cN_count 3 = .ok (.istore_n 2, 1) := by decide +kernel
theorem dN_count_4 : decode cN_count 4 = .ok (.iload_n 2, 1) := by decide +kernel
theorem dN_count_5 : decode cN_count 5 = .ok (.bipush 6, 2) := by decide +kernel
theorem dN_count_7 : decode cN_count 7 = .ok (.if_icmp .ge 17, 3) := by decide +kernel
theorem dN_count_10 : decode cN_count 10 = .ok (.iload_n 1, 1) := by decide +kernel
theorem dN_count_11 : decode cN_count 11 = .ok (.iload_n 0, 1) := by decide +kernel
theorem dN_count_12 : decode cN_count 12 = .ok (.iload_n 2, 1) := by decide +kernel
theorem dN_count_13 : decode cN_count 13 = .ok (.ishr, 1) := by decide +kernel
theorem dN_count_14 : decode cN_count 14 = .ok (.iconst 1, 1) := by decide +kernel
theorem dN_count_15 : decode cN_count 15 = .ok (.iand, 1) := by decide +kernel
theorem dN_count_16 : decode cN_count 16 = .ok (.iadd, 1) := by decide +kernel
theorem dN_count_17 : decode cN_count 17 = .ok (.istore_n 1, 1) := by decide +kernel
theorem dN_count_18 : decode cN_count 18 = .ok (.iinc 2 1, 3) := by decide +kernel
theorem dN_count_21 : decode cN_count 21 = .ok (.goto (-17), 3) := by decide +kernel
theorem dN_count_24 : decode cN_count 24 = .ok (.iload_n 1, 1) := by decide +kernel
theorem dN_count_25 : decode cN_count 25 = .ok (.ireturn, 1) := by decide +kernel
theorem dN_lowest_0 : decode cN_lowest 0 = .ok (.iconst (-1), 1) := by decide +kernel
theorem dN_lowest_1 : decode cN_lowest 1 = .ok (.istore_n 1, 1) := by decide +kernel
theorem dN_lowest_2 : decode cN_lowest 2 = .ok (.iconst 5, 1) := by decide +kernel
theorem dN_lowest_3 : decode cN_lowest 3 = .ok (.istore_n 2, 1) := by decide +kernel
theorem dN_lowest_4 : decode cN_lowest 4 = .ok (.iload_n 2, 1) := by decide +kernel
theorem dN_lowest_5 : decode cN_lowest 5 = .ok (.ifCond .lt 24, 3) := by decide +kernel
theorem dN_lowest_8 : decode cN_lowest 8 = .ok (.iload_n 0, 1) := by decide +kernel
theorem dN_lowest_9 : decode cN_lowest 9 = .ok (.iload_n 2, 1) := by decide +kernel
theorem dN_lowest_10 : decode cN_lowest 10 = .ok (.ishr, 1) := by decide +kernel
theorem dN_lowest_11 : decode cN_lowest 11 = .ok (.iconst 1, 1) := by decide +kernel
theorem dN_lowest_12 : decode cN_lowest 12 = .ok (.iand, 1) := by decide +kernel
theorem dN_lowest_13 : decode cN_lowest 13 = .ok (.iconst 1, 1) := by decide +kernel
theorem dN_lowest_14 : decode cN_lowest 14 = .ok (.if_icmp .ne 7, 3) := by decide +kernel
theorem dN_lowest_17 : decode cN_lowest 17 = .ok (.iload_n 2, 1) := by decide +kernel
theorem dN_lowest_18 : decode cN_lowest 18 = .ok (.goto 4, 3) := by decide +kernel
theorem dN_lowest_21 : decode cN_lowest 21 = .ok (.iload_n 1, 1) := by decide +kernel
theorem dN_lowest_22 : decode cN_lowest 22 = .ok (.istore_n 1, 1) := by decide +kernel
theorem dN_lowest_23 : decode cN_lowest 23 = .ok (.iinc 2 (-1), 3) := by decide +kernel
theorem dN_lowest_26 : decode cN_lowest 26 = .ok (.goto (-22), 3) := by decide +kernel
theorem dN_lowest_29 : decode cN_lowest 29 = .ok (.iload_n 1, 1) := by decide +kernel
theorem dN_lowest_30 : decode cN_lowest 30 = .ok (.ireturn, 1) := by decide +kernel
theorem dN_open_0 : decode cN_open 0 = .ok (.aload_n 0, 1) := by decide +kernel
theorem dN_open_1 : decode cN_open 1 = .ok (.getfield 47, 3) := by decide +kernel
theorem dN_open_4 : decode cN_open 4 = .ok (.iload_n 1, 1) := by decide +kernel
theorem dN_open_5 : decode cN_open 5 = .ok (.iaload, 1) := by decide +kernel
theorem dN_open_6 : decode cN_open 6 = .ok (.iconst 1, 1) := by decide +kernel
theorem dN_open_7 : decode cN_open 7 = .ok (.if_icmp .eq 13, 3) := by decide +kernel
theorem dN_open_10 : decode cN_open 10 = .ok (.aload_n 0, 1) := by decide +kernel
theorem dN_open_11 : decode cN_open 11 = .ok (.getfield 47, 3) := by decide +kernel
theorem dN_open_14 : decode cN_open 14 = .ok (.iload_n 1, 1) := by decide +kernel
theorem dN_open_15 : decode cN_open 15 = .ok (.iaload, 1) := by decide +kernel
theorem dN_open_16 : decode cN_open 16 = .ok (.iconst 2, 1) := by decide +kernel
theorem dN_open_17 : decode cN_open 17 = .ok (.if_icmp .ne 7, 3) := by decide +kernel
theorem dN_open_20 : decode cN_open 20 = .ok (.iconst 1, 1) := by decide +kernel
theorem dN_open_21 : decode cN_open 21 = .ok (.goto 4, 3) := by decide +kernel
theorem dN_open_24 : decode cN_open 24 = .ok (.iconst 0, 1) := by decide +kernel
theorem dN_open_25 : decode cN_open 25 = .ok (.ireturn, 1) := by decide +kernel
theorem dN_greater_0 : decode cN_greater 0 = .ok (.iload_n 1, 1) := by decide +kernel
theorem dN_greater_1 : decode cN_greater 1 = .ok (.ifCond .eq 7, 3) := by decide +kernel
theorem dN_greater_4 : decode cN_greater 4 = .ok (.iload_n 2, 1) := by decide +kernel
theorem dN_greater_5 : decode cN_greater 5 = .ok (.ifCond .ne 7, 3) := by decide +kernel
theorem dN_greater_8 : decode cN_greater 8 = .ok (.iload_n 1, 1) := by decide +kernel
theorem dN_greater_9 : decode cN_greater 9 = .ok (.iload_n 2, 1) := by decide +kernel
theorem dN_greater_10 : decode cN_greater 10 = .ok (.iadd, 1) := by decide +kernel
theorem dN_greater_11 : decode cN_greater 11 = .ok (.ireturn, 1) := by decide +kernel
theorem dN_greater_12 : decode cN_greater 12 = .ok (.aload_n 0, 1) := by decide +kernel
theorem dN_greater_13 : decode cN_greater 13 = .ok (.getfield 16, 3) := by decide +kernel
theorem dN_greater_16 : decode cN_greater 16 = .ok (.iload_n 2, 1) := by decide +kernel
theorem dN_greater_17 : decode cN_greater 17 = .ok (.iconst 1, 1) := by decide +kernel
theorem dN_greater_18 : decode cN_greater 18 = .ok (.isub, 1) := by decide +kernel
theorem dN_greater_19 : decode cN_greater 19 = .ok (.iaload, 1) := by decide +kernel
theorem dN_greater_20 : decode cN_greater 20 = .ok (.aload_n 0, 1) := by decide +kernel
theorem dN_greater_21 : decode cN_greater 21 = .ok (.getfield 16, 3) := by decide +kernel
theorem dN_greater_24 : decode cN_greater 24 = .ok (.iload_n 1, 1) := by decide +kernel
theorem dN_greater_25 : decode cN_greater 25 = .ok (.iconst 1, 1) := by decide +kernel
theorem dN_greater_26 : decode cN_greater 26 = .ok (.isub, 1) := by decide +kernel
theorem dN_greater_27 : decode cN_greater 27 = .ok (.iaload, 1) := by decide +kernel
theorem dN_greater_28 : decode cN_greater 28 = .ok (.if_icmp .le 7, 3) := by decide +kernel
theorem dN_greater_31 : decode cN_greater 31 = .ok (.iload_n 2, 1) := by decide +kernel
theorem dN_greater_32 : decode cN_greater 32 = .ok (.goto 4, 3) := by decide +kernel
theorem dN_greater_35 : decode cN_greater 35 = .ok (.iload_n 1, 1) := by decide +kernel
theorem dN_greater_36 : decode cN_greater 36 = .ok (.ireturn, 1) := by decide +kernel
theorem dN_latestOf_0 : decode cN_latestOf 0 = .ok (.iconst 0, 1) := by decide +kernel
theorem dN_latestOf_1 : decode cN_latestOf 1 = .ok (.istore_n 3, 1) := by decide +kernel
theorem dN_latestOf_2 : decode cN_latestOf 2 = .ok (.iconst 0, 1) := by decide +kernel
theorem dN_latestOf_3 : decode cN_latestOf 3 = .ok (.istore 4, 2) := by decide +kernel
theorem dN_latestOf_5 : decode cN_latestOf 5 = .ok (.iload 4, 2) := by decide +kernel
theorem dN_latestOf_7 : decode cN_latestOf 7 = .ok (.aload_n 0, 1) := by decide +kernel
theorem dN_latestOf_8 : decode cN_latestOf 8 = .ok (.getfield 65, 3) := by decide +kernel
theorem dN_latestOf_11 : decode cN_latestOf 11 = .ok (.if_icmp .ge 49, 3) := by decide +kernel
theorem dN_latestOf_14 : decode cN_latestOf 14 = .ok (.aload_n 0, 1) := by decide +kernel
theorem dN_latestOf_15 : decode cN_latestOf 15 = .ok (.getfield 25, 3) := by decide +kernel
theorem dN_latestOf_18 : decode cN_latestOf 18 = .ok (.bipush 40, 2) := by decide +kernel
theorem dN_latestOf_20 : decode cN_latestOf 20 = .ok (.iload_n 1, 1) := by decide +kernel
theorem dN_latestOf_21 : decode cN_latestOf 21 = .ok (.imul, 1) := by decide +kernel
theorem dN_latestOf_22 : decode cN_latestOf 22 = .ok (.iload 4, 2) := by decide +kernel
theorem dN_latestOf_24 : decode cN_latestOf 24 = .ok (.iadd, 1) := by decide +kernel
theorem dN_latestOf_25 : decode cN_latestOf 25 = .ok (.baload, 1) := by decide +kernel
theorem dN_latestOf_26 : decode cN_latestOf 26 = .ok (.ifCond .eq 26, 3) := by decide +kernel
theorem dN_latestOf_29 : decode cN_latestOf 29 = .ok (.aload_n 0, 1) := by decide +kernel
theorem dN_latestOf_30 : decode cN_latestOf 30 = .ok (.getfield 7, 3) := by decide +kernel
theorem dN_latestOf_33 : decode cN_latestOf 33 = .ok (.iload 4, 2) := by decide +kernel
theorem dN_latestOf_35 : decode cN_latestOf 35 = .ok (.iaload, 1) := by decide +kernel
theorem dN_latestOf_36 : decode cN_latestOf 36 = .ok (.iload_n 2, 1) := by decide +kernel
theorem dN_latestOf_37 : decode cN_latestOf 37 = .ok (.if_icmp .ne 15, 3) := by decide +kernel
theorem dN_latestOf_40 : decode cN_latestOf 40 = .ok (.aload_n 0, 1) := by decide +kernel
theorem dN_latestOf_41 : decode cN_latestOf 41 = .ok (.iload_n 3, 1) := by decide +kernel
theorem dN_latestOf_42 : decode cN_latestOf 42 = .ok (.iload 4, 2) := by decide +kernel
theorem dN_latestOf_44 : decode cN_latestOf 44 = .ok (.iconst 1, 1) := by decide +kernel
theorem dN_latestOf_45 : decode cN_latestOf 45 = .ok (.iadd, 1) := by decide +kernel
theorem dN_latestOf_46 : decode cN_latestOf 46 = .ok (.invokevirtual 69, 3) := by decide +kernel
theorem dN_latestOf_49 : decode cN_latestOf 49 = .ok (.goto 4, 3) := by decide +kernel
theorem dN_latestOf_52 : decode cN_latestOf 52 = .ok (.iload_n 3, 1) := by decide +kernel
theorem dN_latestOf_53 : decode cN_latestOf 53 = .ok (.istore_n 3, 1) := by decide +kernel
theorem dN_latestOf_54 : decode cN_latestOf 54 = .ok (.iinc 4 1, 3) := by decide +kernel
theorem dN_latestOf_57 : decode cN_latestOf 57 = .ok (.goto (-52), 3) := by decide +kernel
theorem dN_latestOf_60 : decode cN_latestOf 60 = .ok (.iload_n 3, 1) := by decide +kernel
theorem dN_latestOf_61 : decode cN_latestOf 61 = .ok (.ireturn, 1) := by decide +kernel
theorem dN_near_0 : decode cN_near 0 = .ok (.iconst 0, 1) := by decide +kernel
theorem dN_near_1 : decode cN_near 1 = .ok (.istore_n 2, 1) := by decide +kernel
theorem dN_near_2 : decode cN_near 2 = .ok (.iconst 0, 1) := by decide +kernel
theorem dN_near_3 : decode cN_near 3 = .ok (.istore_n 3, 1) := by decide +kernel
theorem dN_near_4 : decode cN_near 4 = .ok (.iload_n 3, 1) := by decide +kernel
theorem dN_near_5 : decode cN_near 5 = .ok (.bipush 6, 2) := by decide +kernel
theorem dN_near_7 : decode cN_near 7 = .ok (.if_icmp .ge 121, 3) := by decide +kernel
theorem dN_near_10 : decode cN_near 10 = .ok (.aload_n 0, 1) := by decide +kernel
theorem dN_near_11 : decode cN_near 11 = .ok (.getfield 44, 3) := by decide +kernel
theorem dN_near_14 : decode cN_near 14 = .ok (.bipush 6, 2) := by decide +kernel
theorem dN_near_16 : decode cN_near 16 = .ok (.iload_n 1, 1) := by decide +kernel
theorem dN_near_17 : decode cN_near 17 = .ok (.imul, 1) := by decide +kernel
theorem dN_near_18 : decode cN_near 18 = .ok (.iload_n 3, 1) := by decide +kernel
theorem dN_near_19 : decode cN_near 19 = .ok (.iadd, 1) := by decide +kernel
theorem dN_near_20 : decode cN_near 20 = .ok (.iaload, 1) := by decide +kernel
theorem dN_near_21 : decode cN_near 21 = .ok (.istore 4, 2) := by decide +kernel
theorem dN_near_23 : decode cN_near 23 = .ok (.iload 4, 2) := by decide +kernel
theorem dN_near_25 : decode cN_near 25 = .ok (.ifCond .le 7, 3) := by decide +kernel
theorem dN_near_28 : decode cN_near 28 = .ok (.iconst 1, 1) := by decide +kernel
theorem dN_near_29 : decode cN_near 29 = .ok (.goto 4, 3) := by decide +kernel
theorem dN_near_32 : decode cN_near 32 = .ok (.iconst 0, 1) := by decide +kernel
theorem dN_near_33 : decode cN_near 33 = .ok (.istore 5, 2) := by decide +kernel
theorem dN_near_35 : decode cN_near 35 = .ok (.iconst 0, 1) := by decide +kernel
theorem dN_near_36 : decode cN_near 36 = .ok (.istore 6, 2) := by decide +kernel
theorem dN_near_38 : decode cN_near 38 = .ok (.iload 6, 2) := by decide +kernel
theorem dN_near_40 : decode cN_near 40 = .ok (.bipush 6, 2) := by decide +kernel
theorem dN_near_42 : decode cN_near 42 = .ok (.if_icmp .ge 65, 3) := by decide +kernel
theorem dN_near_45 : decode cN_near 45 = .ok (.aload_n 0, 1) := by decide +kernel
theorem dN_near_46 : decode cN_near 46 = .ok (.getfield 44, 3) := by decide +kernel
theorem dN_near_49 : decode cN_near 49 = .ok (.bipush 6, 2) := by decide +kernel
theorem dN_near_51 : decode cN_near 51 = .ok (.iload_n 1, 1) := by decide +kernel
theorem dN_near_52 : decode cN_near 52 = .ok (.imul, 1) := by decide +kernel
theorem dN_near_53 : decode cN_near 53 = .ok (.iload 6, 2) := by decide +kernel
theorem dN_near_55 : decode cN_near 55 = .ok (.iadd, 1) := by decide +kernel
theorem dN_near_56 : decode cN_near 56 = .ok (.iaload, 1) := by decide +kernel
theorem dN_near_57 : decode cN_near 57 = .ok (.istore 7, 2) := by decide +kernel
theorem dN_near_59 : decode cN_near 59 = .ok (.iload 5, 2) := by decide +kernel
theorem dN_near_61 : decode cN_near 61 = .ok (.ifCond .eq 37, 3) := by decide +kernel
theorem dN_near_64 : decode cN_near 64 = .ok (.iload 6, 2) := by decide +kernel
theorem dN_near_66 : decode cN_near 66 = .ok (.iload_n 3, 1) := by decide +kernel
theorem dN_near_67 : decode cN_near 67 = .ok (.if_icmp .eq 27, 3) := by decide +kernel
theorem dN_near_70 : decode cN_near 70 = .ok (.iload 7, 2) := by decide +kernel
theorem dN_near_72 : decode cN_near 72 = .ok (.ifCond .eq 22, 3) := by decide +kernel
theorem dN_near_75 : decode cN_near 75 = .ok (.aload_n 0, 1) := by decide +kernel
theorem dN_near_76 : decode cN_near 76 = .ok (.getfield 19, 3) := by decide +kernel
theorem dN_near_79 : decode cN_near 79 = .ok (.bipush 6, 2) := by decide +kernel
theorem dN_near_81 : decode cN_near 81 = .ok (.iload 7, 2) := by decide +kernel
theorem dN_near_83 : decode cN_near 83 = .ok (.iconst 1, 1) := by decide +kernel
theorem dN_near_84 : decode cN_near 84 = .ok (.isub, 1) := by decide +kernel
theorem dN_near_85 : decode cN_near 85 = .ok (.imul, 1) := by decide +kernel
theorem dN_near_86 : decode cN_near 86 = .ok (.iload_n 3, 1) := by decide +kernel
theorem dN_near_87 : decode cN_near 87 = .ok (.iadd, 1) := by decide +kernel
theorem dN_near_88 : decode cN_near 88 = .ok (.iaload, 1) := by decide +kernel
theorem dN_near_89 : decode cN_near 89 = .ok (.iload 4, 2) := by decide +kernel
theorem dN_near_91 : decode cN_near 91 = .ok (.if_icmp .eq 7, 3) := by decide +kernel
theorem dN_near_94 : decode cN_near 94 = .ok (.iconst 1, 1) := by decide +kernel
theorem dN_near_95 : decode cN_near 95 = .ok (.goto 4, 3) := by decide +kernel
theorem dN_near_98 : decode cN_near 98 = .ok (.iconst 0, 1) := by decide +kernel
theorem dN_near_99 : decode cN_near 99 = .ok (.istore 5, 2) := by decide +kernel
theorem dN_near_101 : decode cN_near 101 = .ok (.iinc 6 1, 3) := by decide +kernel
theorem dN_near_104 : decode cN_near 104 = .ok (.goto (-66), 3) := by decide +kernel
theorem dN_near_107 : decode cN_near 107 = .ok (.iload 5, 2) := by decide +kernel
theorem dN_near_109 : decode cN_near 109 = .ok (.ifCond .eq 11, 3) := by decide +kernel
theorem dN_near_112 : decode cN_near 112 = .ok (.iload_n 2, 1) := by decide +kernel
theorem dN_near_113 : decode cN_near 113 = .ok (.iconst 1, 1) := by decide +kernel
theorem dN_near_114 : decode cN_near 114 = .ok (.iload_n 3, 1) := by decide +kernel
theorem dN_near_115 : decode cN_near 115 = .ok (.ishl, 1) := by decide +kernel
theorem dN_near_116 : decode cN_near 116 = .ok (.ior, 1) := by decide +kernel
theorem dN_near_117 : decode cN_near 117 = .ok (.goto 4, 3) := by decide +kernel
theorem dN_near_120 : decode cN_near 120 = .ok (.iload_n 2, 1) := by decide +kernel
theorem dN_near_121 : decode cN_near 121 = .ok (.istore_n 2, 1) := by decide +kernel
theorem dN_near_122 : decode cN_near 122 = .ok (.iinc 3 1, 3) := by decide +kernel
theorem dN_near_125 : decode cN_near 125 = .ok (.goto (-121), 3) := by decide +kernel
theorem dN_near_128 : decode cN_near 128 = .ok (.iload_n 2, 1) := by decide +kernel
theorem dN_near_129 : decode cN_near 129 = .ok (.ireturn, 1) := by decide +kernel
theorem dN_see_0 : decode cN_see 0 = .ok (.iconst 0, 1) := by decide +kernel
theorem dN_see_1 : decode cN_see 1 = .ok (.istore_n 3, 1) := by decide +kernel
theorem dN_see_2 : decode cN_see 2 = .ok (.iload_n 3, 1) := by decide +kernel
theorem dN_see_3 : decode cN_see 3 = .ok (.bipush 6, 2) := by decide +kernel
theorem dN_see_5 : decode cN_see 5 = .ok (.if_icmp .ge 46, 3) := by decide +kernel
theorem dN_see_8 : decode cN_see 8 = .ok (.aload_n 0, 1) := by decide +kernel
theorem dN_see_9 : decode cN_see 9 = .ok (.getfield 44, 3) := by decide +kernel
theorem dN_see_12 : decode cN_see 12 = .ok (.bipush 6, 2) := by decide +kernel
theorem dN_see_14 : decode cN_see 14 = .ok (.iload_n 1, 1) := by decide +kernel
theorem dN_see_15 : decode cN_see 15 = .ok (.imul, 1) := by decide +kernel
theorem dN_see_16 : decode cN_see 16 = .ok (.iload_n 3, 1) := by decide +kernel
theorem dN_see_17 : decode cN_see 17 = .ok (.iadd, 1) := by decide +kernel
theorem dN_see_18 : decode cN_see 18 = .ok (.aload_n 0, 1) := by decide +kernel
theorem dN_see_19 : decode cN_see 19 = .ok (.aload_n 0, 1) := by decide +kernel
theorem dN_see_20 : decode cN_see 20 = .ok (.getfield 44, 3) := by decide +kernel
theorem dN_see_23 : decode cN_see 23 = .ok (.bipush 6, 2) := by decide +kernel
theorem dN_see_25 : decode cN_see 25 = .ok (.iload_n 1, 1) := by decide +kernel
theorem dN_see_26 : decode cN_see 26 = .ok (.imul, 1) := by decide +kernel
theorem dN_see_27 : decode cN_see 27 = .ok (.iload_n 3, 1) := by decide +kernel
theorem dN_see_28 : decode cN_see 28 = .ok (.iadd, 1) := by decide +kernel
theorem dN_see_29 : decode cN_see 29 = .ok (.iaload, 1) := by decide +kernel
theorem dN_see_30 : decode cN_see 30 = .ok (.aload_n 0, 1) := by decide +kernel
theorem dN_see_31 : decode cN_see 31 = .ok (.getfield 19, 3) := by decide +kernel
theorem dN_see_34 : decode cN_see 34 = .ok (.bipush 6, 2) := by decide +kernel
theorem dN_see_36 : decode cN_see 36 = .ok (.iload_n 2, 1) := by decide +kernel
theorem dN_see_37 : decode cN_see 37 = .ok (.imul, 1) := by decide +kernel
theorem dN_see_38 : decode cN_see 38 = .ok (.iload_n 3, 1) := by decide +kernel
theorem dN_see_39 : decode cN_see 39 = .ok (.iadd, 1) := by decide +kernel
theorem dN_see_40 : decode cN_see 40 = .ok (.iaload, 1) := by decide +kernel
theorem dN_see_41 : decode cN_see 41 = .ok (.invokevirtual 69, 3) := by decide +kernel
theorem dN_see_44 : decode cN_see 44 = .ok (.iastore, 1) := by decide +kernel
theorem dN_see_45 : decode cN_see 45 = .ok (.iinc 3 1, 3) := by decide +kernel
theorem dN_see_48 : decode cN_see 48 = .ok (.goto (-46), 3) := by decide +kernel
theorem dN_see_51 : decode cN_see 51 = .ok (.bipush 6, 2) := by decide +kernel
theorem dN_see_53 : decode cN_see 53 = .ok (.iload_n 1, 1) := by decide +kernel
theorem dN_see_54 : decode cN_see 54 = .ok (.imul, 1) := by decide +kernel
theorem dN_see_55 : decode cN_see 55 = .ok (.aload_n 0, 1) := by decide +kernel
theorem dN_see_56 : decode cN_see 56 = .ok (.getfield 7, 3) := by decide +kernel
theorem dN_see_59 : decode cN_see 59 = .ok (.iload_n 2, 1) := by decide +kernel
theorem dN_see_60 : decode cN_see 60 = .ok (.iaload, 1) := by decide +kernel
theorem dN_see_61 : decode cN_see 61 = .ok (.iadd, 1) := by decide +kernel
theorem dN_see_62 : decode cN_see 62 = .ok (.istore_n 3, 1) := by decide +kernel
theorem dN_see_63 : decode cN_see 63 = .ok (.aload_n 0, 1) := by decide +kernel
theorem dN_see_64 : decode cN_see 64 = .ok (.getfield 44, 3) := by decide +kernel
theorem dN_see_67 : decode cN_see 67 = .ok (.iload_n 3, 1) := by decide +kernel
theorem dN_see_68 : decode cN_see 68 = .ok (.aload_n 0, 1) := by decide +kernel
theorem dN_see_69 : decode cN_see 69 = .ok (.aload_n 0, 1) := by decide +kernel
theorem dN_see_70 : decode cN_see 70 = .ok (.getfield 44, 3) := by decide +kernel
theorem dN_see_73 : decode cN_see 73 = .ok (.iload_n 3, 1) := by decide +kernel
theorem dN_see_74 : decode cN_see 74 = .ok (.iaload, 1) := by decide +kernel
theorem dN_see_75 : decode cN_see 75 = .ok (.iload_n 2, 1) := by decide +kernel
theorem dN_see_76 : decode cN_see 76 = .ok (.iconst 1, 1) := by decide +kernel
theorem dN_see_77 : decode cN_see 77 = .ok (.iadd, 1) := by decide +kernel
theorem dN_see_78 : decode cN_see 78 = .ok (.invokevirtual 69, 3) := by decide +kernel
theorem dN_see_81 : decode cN_see 81 = .ok (.iastore, 1) := by decide +kernel
theorem dN_see_82 : decode cN_see 82 = .ok (.return_, 1) := by decide +kernel
theorem dN_send_0 : decode cN_send 0 = .ok (.iconst 3, 1) := by decide +kernel
theorem dN_send_1 : decode cN_send 1 = .ok (.iload_n 2, 1) := by decide +kernel
theorem dN_send_2 : decode cN_send 2 = .ok (.imul, 1) := by decide +kernel
theorem dN_send_3 : decode cN_send 3 = .ok (.iload_n 3, 1) := by decide +kernel
theorem dN_send_4 : decode cN_send 4 = .ok (.iadd, 1) := by decide +kernel
theorem dN_send_5 : decode cN_send 5 = .ok (.istore 4, 2) := by decide +kernel
theorem dN_send_7 : decode cN_send 7 = .ok (.aload_n 0, 1) := by decide +kernel
theorem dN_send_8 : decode cN_send 8 = .ok (.getfield 41, 3) := by decide +kernel
theorem dN_send_11 : decode cN_send 11 = .ok (.bipush 40, 2) := by decide +kernel
theorem dN_send_13 : decode cN_send 13 = .ok (.iload 4, 2) := by decide +kernel
theorem dN_send_15 : decode cN_send 15 = .ok (.imul, 1) := by decide +kernel
theorem dN_send_16 : decode cN_send 16 = .ok (.aload_n 0, 1) := by decide +kernel
theorem dN_send_17 : decode cN_send 17 = .ok (.getfield 38, 3) := by decide +kernel
theorem dN_send_20 : decode cN_send 20 = .ok (.iload 4, 2) := by decide +kernel
theorem dN_send_22 : decode cN_send 22 = .ok (.iaload, 1) := by decide +kernel
theorem dN_send_23 : decode cN_send 23 = .ok (.iadd, 1) := by decide +kernel
theorem dN_send_24 : decode cN_send 24 = .ok (.iload_n 1, 1) := by decide +kernel
theorem dN_send_25 : decode cN_send 25 = .ok (.iastore, 1) := by decide +kernel
theorem dN_send_26 : decode cN_send 26 = .ok (.aload_n 0, 1) := by decide +kernel
theorem dN_send_27 : decode cN_send 27 = .ok (.getfield 38, 3) := by decide +kernel
theorem dN_send_30 : decode cN_send 30 = .ok (.iload 4, 2) := by decide +kernel
theorem dN_send_32 : decode cN_send 32 = .ok (.dup2, 1) := by decide +kernel
theorem dN_send_33 : decode cN_send 33 = .ok (.iaload, 1) := by decide +kernel
theorem dN_send_34 : decode cN_send 34 = .ok (.iconst 1, 1) := by decide +kernel
theorem dN_send_35 : decode cN_send 35 = .ok (.iadd, 1) := by decide +kernel
theorem dN_send_36 : decode cN_send 36 = .ok (.iastore, 1) := by decide +kernel
theorem dN_send_37 : decode cN_send 37 = .ok (.return_, 1) := by decide +kernel
theorem dN_put_0 : decode cN_put 0 = .ok (.iload_n 1, 1) := by decide +kernel
theorem dN_put_1 : decode cN_put 1 = .ok (.bipush 6, 2) := by decide +kernel
theorem dN_put_3 : decode cN_put 3 = .ok (.invokestatic 73, 3) := by decide +kernel
theorem dN_put_6 : decode cN_put 6 = .ok (.ifCond .ne 12, 3) := by decide +kernel
theorem dN_put_9 : decode cN_put 9 = .ok (.iload_n 2, 1) := by decide +kernel
theorem dN_put_10 : decode cN_put 10 = .ok (.bipush 6, 2) := by decide +kernel
theorem dN_put_12 : decode cN_put 12 = .ok (.invokestatic 73, 3) := by decide +kernel
theorem dN_put_15 : decode cN_put 15 = .ok (.ifCond .eq 5, 3) := by decide +kernel
theorem dN_put_18 : decode cN_put 18 = .ok (.iconst (-1), 1) := by decide +kernel
theorem dN_put_19 : decode cN_put 19 = .ok (.ireturn, 1) := by decide +kernel
theorem dN_put_20 : decode cN_put 20 = .ok (.aload_n 0, 1) := by decide +kernel
theorem dN_put_21 : decode cN_put 21 = .ok (.iload_n 1, 1) := by decide +kernel
theorem dN_put_22 : decode cN_put 22 = .ok (.invokevirtual 77, 3) := by decide +kernel
theorem dN_put_25 : decode cN_put 25 = .ok (.ifCond .eq 6, 3) := by decide +kernel
theorem dN_put_28 : decode cN_put 28 = .ok (.bipush (-2), 2) := by decide +kernel
theorem dN_put_30 : decode cN_put 30 = .ok (.ireturn, 1) := by decide +kernel
theorem dN_put_31 : decode cN_put 31 = .ok (.aload_n 0, 1) := by decide +kernel
theorem dN_put_32 : decode cN_put 32 = .ok (.getfield 65, 3) := by decide +kernel
theorem dN_put_35 : decode cN_put 35 = .ok (.bipush 40, 2) := by decide +kernel
theorem dN_put_37 : decode cN_put 37 = .ok (.if_icmp .ne 6, 3) := by decide +kernel
theorem dN_put_40 : decode cN_put 40 = .ok (.bipush (-3), 2) := by decide +kernel
theorem dN_put_42 : decode cN_put 42 = .ok (.ireturn, 1) := by decide +kernel
theorem dN_put_43 : decode cN_put 43 = .ok (.iload_n 1, 1) := by decide +kernel
theorem dN_put_44 : decode cN_put 44 = .ok (.iconst 3, 1) := by decide +kernel
theorem dN_put_45 : decode cN_put 45 = .ok (.irem, 1) := by decide +kernel
theorem dN_put_46 : decode cN_put 46 = .ok (.istore 4, 2) := by decide +kernel
theorem dN_put_48 : decode cN_put 48 = .ok (.iconst 2, 1) := by decide +kernel
theorem dN_put_49 : decode cN_put 49 = .ok (.iload 4, 2) := by decide +kernel
theorem dN_put_51 : decode cN_put 51 = .ok (.imul, 1) := by decide +kernel
theorem dN_put_52 : decode cN_put 52 = .ok (.iload_n 2, 1) := by decide +kernel
theorem dN_put_53 : decode cN_put 53 = .ok (.iconst 2, 1) := by decide +kernel
theorem dN_put_54 : decode cN_put 54 = .ok (.irem, 1) := by decide +kernel
theorem dN_put_55 : decode cN_put 55 = .ok (.iadd, 1) := by decide +kernel
theorem dN_put_56 : decode cN_put 56 = .ok (.istore 5, 2) := by decide +kernel
theorem dN_put_58 : decode cN_put 58 = .ok (.aload_n 0, 1) := by decide +kernel
theorem dN_put_59 : decode cN_put 59 = .ok (.getfield 29, 3) := by decide +kernel
theorem dN_put_62 : decode cN_put 62 = .ok (.iload 5, 2) := by decide +kernel
theorem dN_put_64 : decode cN_put 64 = .ok (.iaload, 1) := by decide +kernel
theorem dN_put_65 : decode cN_put 65 = .ok (.istore 6, 2) := by decide +kernel
theorem dN_put_67 : decode cN_put 67 = .ok (.iconst 0, 1) := by decide +kernel
theorem dN_put_68 : decode cN_put 68 = .ok (.istore 7, 2) := by decide +kernel
theorem dN_put_70 : decode cN_put 70 = .ok (.iload 7, 2) := by decide +kernel
theorem dN_put_72 : decode cN_put 72 = .ok (.bipush 6, 2) := by decide +kernel
theorem dN_put_74 : decode cN_put 74 = .ok (.if_icmp .ge 62, 3) := by decide +kernel
theorem dN_put_77 : decode cN_put 77 = .ok (.aload_n 0, 1) := by decide +kernel
theorem dN_put_78 : decode cN_put 78 = .ok (.getfield 44, 3) := by decide +kernel
theorem dN_put_81 : decode cN_put 81 = .ok (.bipush 6, 2) := by decide +kernel
theorem dN_put_83 : decode cN_put 83 = .ok (.iload_n 1, 1) := by decide +kernel
theorem dN_put_84 : decode cN_put 84 = .ok (.imul, 1) := by decide +kernel
theorem dN_put_85 : decode cN_put 85 = .ok (.iload 7, 2) := by decide +kernel
theorem dN_put_87 : decode cN_put 87 = .ok (.iadd, 1) := by decide +kernel
theorem dN_put_88 : decode cN_put 88 = .ok (.iaload, 1) := by decide +kernel
theorem dN_put_89 : decode cN_put 89 = .ok (.istore 8, 2) := by decide +kernel
theorem dN_put_91 : decode cN_put 91 = .ok (.iload 8, 2) := by decide +kernel
theorem dN_put_93 : decode cN_put 93 = .ok (.ifCond .le 33, 3) := by decide +kernel
theorem dN_put_96 : decode cN_put 96 = .ok (.aload_n 0, 1) := by decide +kernel
theorem dN_put_97 : decode cN_put 97 = .ok (.getfield 16, 3) := by decide +kernel
theorem dN_put_100 : decode cN_put 100 = .ok (.iload 8, 2) := by decide +kernel
theorem dN_put_102 : decode cN_put 102 = .ok (.iconst 1, 1) := by decide +kernel
theorem dN_put_103 : decode cN_put 103 = .ok (.isub, 1) := by decide +kernel
theorem dN_put_104 : decode cN_put 104 = .ok (.iaload, 1) := by decide +kernel
theorem dN_put_105 : decode cN_put 105 = .ok (.iconst 4, 1) := by decide +kernel
theorem dN_put_106 : decode cN_put 106 = .ok (.idiv, 1) := by decide +kernel
theorem dN_put_107 : decode cN_put 107 = .ok (.iload 6, 2) := by decide +kernel
theorem dN_put_109 : decode cN_put 109 = .ok (.if_icmp .le 17, 3) := by decide +kernel
theorem dN_put_112 : decode cN_put 112 = .ok (.aload_n 0, 1) := by decide +kernel
theorem dN_put_113 : decode cN_put 113 = .ok (.getfield 16, 3) := by decide +kernel
theorem dN_put_116 : decode cN_put 116 = .ok (.iload 8, 2) := by decide +kernel
theorem dN_put_118 : decode cN_put 118 = .ok (.iconst 1, 1) := by decide +kernel
theorem dN_put_119 : decode cN_put 119 = .ok (.isub, 1) := by decide +kernel
theorem dN_put_120 : decode cN_put 120 = .ok (.iaload, 1) := by decide +kernel
theorem dN_put_121 : decode cN_put 121 = .ok (.iconst 4, 1) := by decide +kernel
theorem dN_put_122 : decode cN_put 122 = .ok (.idiv, 1) := by decide +kernel
theorem dN_put_123 : decode cN_put 123 = .ok (.goto 5, 3) := by decide +kernel
theorem dN_put_126 : decode cN_put 126 = .ok (.iload 6, 2) := by decide +kernel
theorem dN_put_128 : decode cN_put 128 = .ok (.istore 6, 2) := by decide +kernel
theorem dN_put_130 : decode cN_put 130 = .ok (.iinc 7 1, 3) := by decide +kernel
theorem dN_put_133 : decode cN_put 133 = .ok (.goto (-63), 3) := by decide +kernel
theorem dN_put_136 : decode cN_put 136 = .ok (.aload_n 0, 1) := by decide +kernel
theorem dN_put_137 : decode cN_put 137 = .ok (.getfield 29, 3) := by decide +kernel
theorem dN_put_140 : decode cN_put 140 = .ok (.iload 5, 2) := by decide +kernel
theorem dN_put_142 : decode cN_put 142 = .ok (.iload 6, 2) := by decide +kernel
theorem dN_put_144 : decode cN_put 144 = .ok (.iconst 1, 1) := by decide +kernel
theorem dN_put_145 : decode cN_put 145 = .ok (.iadd, 1) := by decide +kernel
theorem dN_put_146 : decode cN_put 146 = .ok (.iastore, 1) := by decide +kernel
theorem dN_put_147 : decode cN_put 147 = .ok (.aload_n 0, 1) := by decide +kernel
theorem dN_put_148 : decode cN_put 148 = .ok (.getfield 65, 3) := by decide +kernel
theorem dN_put_151 : decode cN_put 151 = .ok (.istore 7, 2) := by decide +kernel
theorem dN_put_153 : decode cN_put 153 = .ok (.aload_n 0, 1) := by decide +kernel
theorem dN_put_154 : decode cN_put 154 = .ok (.getfield 7, 3) := by decide +kernel
theorem dN_put_157 : decode cN_put 157 = .ok (.iload 7, 2) := by decide +kernel
theorem dN_put_159 : decode cN_put 159 = .ok (.iload_n 2, 1) := by decide +kernel
theorem dN_put_160 : decode cN_put 160 = .ok (.iastore, 1) := by decide +kernel
theorem dN_put_161 : decode cN_put 161 = .ok (.aload_n 0, 1) := by decide +kernel
theorem dN_put_162 : decode cN_put 162 = .ok (.getfield 13, 3) := by decide +kernel
theorem dN_put_165 : decode cN_put 165 = .ok (.iload 7, 2) := by decide +kernel
theorem dN_put_167 : decode cN_put 167 = .ok (.iload_n 3, 1) := by decide +kernel
theorem dN_put_168 : decode cN_put 168 = .ok (.iastore, 1) := by decide +kernel
theorem dN_put_169 : decode cN_put 169 = .ok (.aload_n 0, 1) := by decide +kernel
theorem dN_put_170 : decode cN_put 170 = .ok (.getfield 16, 3) := by decide +kernel
theorem dN_put_173 : decode cN_put 173 = .ok (.iload 7, 2) := by decide +kernel
theorem dN_put_175 : decode cN_put 175 = .ok (.iconst 4, 1) := by decide +kernel
theorem dN_put_176 : decode cN_put 176 = .ok (.iload 6, 2) := by decide +kernel
theorem dN_put_178 : decode cN_put 178 = .ok (.iconst 1, 1) := by decide +kernel
theorem dN_put_179 : decode cN_put 179 = .ok (.iadd, 1) := by decide +kernel
theorem dN_put_180 : decode cN_put 180 = .ok (.imul, 1) := by decide +kernel
theorem dN_put_181 : decode cN_put 181 = .ok (.iload 4, 2) := by decide +kernel
theorem dN_put_183 : decode cN_put 183 = .ok (.iadd, 1) := by decide +kernel
theorem dN_put_184 : decode cN_put 184 = .ok (.iastore, 1) := by decide +kernel
theorem dN_put_185 : decode cN_put 185 = .ok (.aload_n 0, 1) := by decide +kernel
theorem dN_put_186 : decode cN_put 186 = .ok (.getfield 22, 3) := by decide +kernel
theorem dN_put_189 : decode cN_put 189 = .ok (.iload 7, 2) := by decide +kernel
theorem dN_put_191 : decode cN_put 191 = .ok (.aload_n 0, 1) := by decide +kernel
theorem dN_put_192 : decode cN_put 192 = .ok (.iload_n 1, 1) := by decide +kernel
theorem dN_put_193 : decode cN_put 193 = .ok (.invokevirtual 81, 3) := by decide +kernel
theorem dN_put_196 : decode cN_put 196 = .ok (.iastore, 1) := by decide +kernel
theorem dN_put_197 : decode cN_put 197 = .ok (.iconst 0, 1) := by decide +kernel
theorem dN_put_198 : decode cN_put 198 = .ok (.istore 8, 2) := by decide +kernel
theorem dN_put_200 : decode cN_put 200 = .ok (.iload 8, 2) := by decide +kernel
theorem dN_put_202 : decode cN_put 202 = .ok (.bipush 6, 2) := by decide +kernel
theorem dN_put_204 : decode cN_put 204 = .ok (.if_icmp .ge 34, 3) := by decide +kernel
theorem dN_put_207 : decode cN_put 207 = .ok (.aload_n 0, 1) := by decide +kernel
theorem dN_put_208 : decode cN_put 208 = .ok (.getfield 19, 3) := by decide +kernel
theorem dN_put_211 : decode cN_put 211 = .ok (.bipush 6, 2) := by decide +kernel
theorem dN_put_213 : decode cN_put 213 = .ok (.iload 7, 2) := by decide +kernel
theorem dN_put_215 : decode cN_put 215 = .ok (.imul, 1) := by decide +kernel
theorem dN_put_216 : decode cN_put 216 = .ok (.iload 8, 2) := by decide +kernel
theorem dN_put_218 : decode cN_put 218 = .ok (.iadd, 1) := by decide +kernel
theorem dN_put_219 : decode cN_put 219 = .ok (.aload_n 0, 1) := by decide +kernel
theorem dN_put_220 : decode cN_put 220 = .ok (.getfield 44, 3) := by decide +kernel
theorem dN_put_223 : decode cN_put 223 = .ok (.bipush 6, 2) := by decide +kernel
theorem dN_put_225 : decode cN_put 225 = .ok (.iload_n 1, 1) := by decide +kernel
theorem dN_put_226 : decode cN_put 226 = .ok (.imul, 1) := by decide +kernel
theorem dN_put_227 : decode cN_put 227 = .ok (.iload 8, 2) := by decide +kernel
theorem dN_put_229 : decode cN_put 229 = .ok (.iadd, 1) := by decide +kernel
theorem dN_put_230 : decode cN_put 230 = .ok (.iaload, 1) := by decide +kernel
theorem dN_put_231 : decode cN_put 231 = .ok (.iastore, 1) := by decide +kernel
theorem dN_put_232 : decode cN_put 232 = .ok (.iinc 8 1, 3) := by decide +kernel
theorem dN_put_235 : decode cN_put 235 = .ok (.goto (-35), 3) := by decide +kernel
theorem dN_put_238 : decode cN_put 238 = .ok (.aload_n 0, 1) := by decide +kernel
theorem dN_put_239 : decode cN_put 239 = .ok (.dup, 1) := by decide +kernel
theorem dN_put_240 : decode cN_put 240 = .ok (.getfield 65, 3) := by decide +kernel
theorem dN_put_243 : decode cN_put 243 = .ok (.iconst 1, 1) := by decide +kernel
theorem dN_put_244 : decode cN_put 244 = .ok (.iadd, 1) := by decide +kernel
theorem dN_put_245 : decode cN_put 245 = .ok (.putfield 65, 3) := by decide +kernel
theorem dN_put_248 : decode cN_put 248 = .ok (.aload_n 0, 1) := by decide +kernel
theorem dN_put_249 : decode cN_put 249 = .ok (.getfield 25, 3) := by decide +kernel
theorem dN_put_252 : decode cN_put 252 = .ok (.bipush 40, 2) := by decide +kernel
theorem dN_put_254 : decode cN_put 254 = .ok (.iload 4, 2) := by decide +kernel
theorem dN_put_256 : decode cN_put 256 = .ok (.imul, 1) := by decide +kernel
theorem dN_put_257 : decode cN_put 257 = .ok (.iload 7, 2) := by decide +kernel
theorem dN_put_259 : decode cN_put 259 = .ok (.iadd, 1) := by decide +kernel
theorem dN_put_260 : decode cN_put 260 = .ok (.iconst 1, 1) := by decide +kernel
theorem dN_put_261 : decode cN_put 261 = .ok (.bastore, 1) := by decide +kernel
theorem dN_put_262 : decode cN_put 262 = .ok (.iconst 0, 1) := by decide +kernel
theorem dN_put_263 : decode cN_put 263 = .ok (.istore 8, 2) := by decide +kernel
theorem dN_put_265 : decode cN_put 265 = .ok (.iload 8, 2) := by decide +kernel
theorem dN_put_267 : decode cN_put 267 = .ok (.iconst 3, 1) := by decide +kernel
theorem dN_put_268 : decode cN_put 268 = .ok (.if_icmp .ge 26, 3) := by decide +kernel
theorem dN_put_271 : decode cN_put 271 = .ok (.iload 8, 2) := by decide +kernel
theorem dN_put_273 : decode cN_put 273 = .ok (.iload 4, 2) := by decide +kernel
theorem dN_put_275 : decode cN_put 275 = .ok (.if_icmp .eq 13, 3) := by decide +kernel
theorem dN_put_278 : decode cN_put 278 = .ok (.aload_n 0, 1) := by decide +kernel
theorem dN_put_279 : decode cN_put 279 = .ok (.iload 7, 2) := by decide +kernel
theorem dN_put_281 : decode cN_put 281 = .ok (.iload 4, 2) := by decide +kernel
theorem dN_put_283 : decode cN_put 283 = .ok (.iload 8, 2) := by decide +kernel
theorem dN_put_285 : decode cN_put 285 = .ok (.invokevirtual 85, 3) := by decide +kernel
theorem dN_put_288 : decode cN_put 288 = .ok (.iinc 8 1, 3) := by decide +kernel
theorem dN_put_291 : decode cN_put 291 = .ok (.goto (-26), 3) := by decide +kernel
theorem dN_put_294 : decode cN_put 294 = .ok (.aload_n 0, 1) := by decide +kernel
theorem dN_put_295 : decode cN_put 295 = .ok (.iload_n 1, 1) := by decide +kernel
theorem dN_put_296 : decode cN_put 296 = .ok (.iload 7, 2) := by decide +kernel
theorem dN_put_298 : decode cN_put 298 = .ok (.invokevirtual 89, 3) := by decide +kernel
theorem dN_put_301 : decode cN_put 301 = .ok (.iload 7, 2) := by decide +kernel
theorem dN_put_303 : decode cN_put 303 = .ok (.ireturn, 1) := by decide +kernel
theorem dN_get_0 : decode cN_get 0 = .ok (.iload_n 1, 1) := by decide +kernel
theorem dN_get_1 : decode cN_get 1 = .ok (.bipush 6, 2) := by decide +kernel
theorem dN_get_3 : decode cN_get 3 = .ok (.invokestatic 73, 3) := by decide +kernel
theorem dN_get_6 : decode cN_get 6 = .ok (.ifCond .ne 12, 3) := by decide +kernel
theorem dN_get_9 : decode cN_get 9 = .ok (.iload_n 2, 1) := by decide +kernel
theorem dN_get_10 : decode cN_get 10 = .ok (.bipush 6, 2) := by decide +kernel
theorem dN_get_12 : decode cN_get 12 = .ok (.invokestatic 73, 3) := by decide +kernel
theorem dN_get_15 : decode cN_get 15 = .ok (.ifCond .eq 5, 3) := by decide +kernel
theorem dN_get_18 : decode cN_get 18 = .ok (.iconst (-1), 1) := by decide +kernel
theorem dN_get_19 : decode cN_get 19 = .ok (.ireturn, 1) := by decide +kernel
theorem dN_get_20 : decode cN_get 20 = .ok (.aload_n 0, 1) := by decide +kernel
theorem dN_get_21 : decode cN_get 21 = .ok (.iload_n 1, 1) := by decide +kernel
theorem dN_get_22 : decode cN_get 22 = .ok (.invokevirtual 77, 3) := by decide +kernel
theorem dN_get_25 : decode cN_get 25 = .ok (.ifCond .eq 6, 3) := by decide +kernel
theorem dN_get_28 : decode cN_get 28 = .ok (.bipush (-2), 2) := by decide +kernel
theorem dN_get_30 : decode cN_get 30 = .ok (.ireturn, 1) := by decide +kernel
theorem dN_get_31 : decode cN_get 31 = .ok (.aload_n 0, 1) := by decide +kernel
theorem dN_get_32 : decode cN_get 32 = .ok (.iload_n 1, 1) := by decide +kernel
theorem dN_get_33 : decode cN_get 33 = .ok (.iconst 3, 1) := by decide +kernel
theorem dN_get_34 : decode cN_get 34 = .ok (.irem, 1) := by decide +kernel
theorem dN_get_35 : decode cN_get 35 = .ok (.iload_n 2, 1) := by decide +kernel
theorem dN_get_36 : decode cN_get 36 = .ok (.invokevirtual 93, 3) := by decide +kernel
theorem dN_get_39 : decode cN_get 39 = .ok (.istore_n 3, 1) := by decide +kernel
theorem dN_get_40 : decode cN_get 40 = .ok (.iload_n 3, 1) := by decide +kernel
theorem dN_get_41 : decode cN_get 41 = .ok (.ifCond .ne 6, 3) := by decide +kernel
theorem dN_get_44 : decode cN_get 44 = .ok (.bipush (-4), 2) := by decide +kernel
theorem dN_get_46 : decode cN_get 46 = .ok (.ireturn, 1) := by decide +kernel
theorem dN_get_47 : decode cN_get 47 = .ok (.aload_n 0, 1) := by decide +kernel
theorem dN_get_48 : decode cN_get 48 = .ok (.iload_n 1, 1) := by decide +kernel
theorem dN_get_49 : decode cN_get 49 = .ok (.iload_n 3, 1) := by decide +kernel
theorem dN_get_50 : decode cN_get 50 = .ok (.iconst 1, 1) := by decide +kernel
theorem dN_get_51 : decode cN_get 51 = .ok (.isub, 1) := by decide +kernel
theorem dN_get_52 : decode cN_get 52 = .ok (.invokevirtual 89, 3) := by decide +kernel
theorem dN_get_55 : decode cN_get 55 = .ok (.iload_n 3, 1) := by decide +kernel
theorem dN_get_56 : decode cN_get 56 = .ok (.iconst 1, 1) := by decide +kernel
theorem dN_get_57 : decode cN_get 57 = .ok (.isub, 1) := by decide +kernel
theorem dN_get_58 : decode cN_get 58 = .ok (.ireturn, 1) := by decide +kernel
theorem dN_begin_0 : decode cN_begin 0 = .ok (.iload_n 1, 1) := by decide +kernel
theorem dN_begin_1 : decode cN_begin 1 = .ok (.bipush 6, 2) := by decide +kernel
theorem dN_begin_3 : decode cN_begin 3 = .ok (.invokestatic 73, 3) := by decide +kernel
theorem dN_begin_6 : decode cN_begin 6 = .ok (.ifCond .ne 14, 3) := by decide +kernel
theorem dN_begin_9 : decode cN_begin 9 = .ok (.iload_n 2, 1) := by decide +kernel
theorem dN_begin_10 : decode cN_begin 10 = .ok (.iconst 1, 1) := by decide +kernel
theorem dN_begin_11 : decode cN_begin 11 = .ok (.if_icmp .lt 9, 3) := by decide +kernel
theorem dN_begin_14 : decode cN_begin 14 = .ok (.iload_n 2, 1) := by decide +kernel
theorem dN_begin_15 : decode cN_begin 15 = .ok (.bipush 63, 2) := by decide +kernel
theorem dN_begin_17 : decode cN_begin 17 = .ok (.if_icmp .le 5, 3) := by decide +kernel
theorem dN_begin_20 : decode cN_begin 20 = .ok (.iconst 0, 1) := by decide +kernel
theorem dN_begin_21 : decode cN_begin 21 = .ok (.ireturn, 1) := by decide +kernel
theorem dN_begin_22 : decode cN_begin 22 = .ok (.aload_n 0, 1) := by decide +kernel
theorem dN_begin_23 : decode cN_begin 23 = .ok (.iload_n 1, 1) := by decide +kernel
theorem dN_begin_24 : decode cN_begin 24 = .ok (.invokevirtual 77, 3) := by decide +kernel
theorem dN_begin_27 : decode cN_begin 27 = .ok (.ifCond .eq 5, 3) := by decide +kernel
theorem dN_begin_30 : decode cN_begin 30 = .ok (.iconst 0, 1) := by decide +kernel
theorem dN_begin_31 : decode cN_begin 31 = .ok (.ireturn, 1) := by decide +kernel
theorem dN_begin_32 : decode cN_begin 32 = .ok (.aload_n 0, 1) := by decide +kernel
theorem dN_begin_33 : decode cN_begin 33 = .ok (.getfield 47, 3) := by decide +kernel
theorem dN_begin_36 : decode cN_begin 36 = .ok (.iload_n 1, 1) := by decide +kernel
theorem dN_begin_37 : decode cN_begin 37 = .ok (.iconst 1, 1) := by decide +kernel
theorem dN_begin_38 : decode cN_begin 38 = .ok (.iastore, 1) := by decide +kernel
theorem dN_begin_39 : decode cN_begin 39 = .ok (.aload_n 0, 1) := by decide +kernel
theorem dN_begin_40 : decode cN_begin 40 = .ok (.getfield 50, 3) := by decide +kernel
theorem dN_begin_43 : decode cN_begin 43 = .ok (.iload_n 1, 1) := by decide +kernel
theorem dN_begin_44 : decode cN_begin 44 = .ok (.iload_n 2, 1) := by decide +kernel
theorem dN_begin_45 : decode cN_begin 45 = .ok (.iastore, 1) := by decide +kernel
theorem dN_begin_46 : decode cN_begin 46 = .ok (.aload_n 0, 1) := by decide +kernel
theorem dN_begin_47 : decode cN_begin 47 = .ok (.getfield 53, 3) := by decide +kernel
theorem dN_begin_50 : decode cN_begin 50 = .ok (.iload_n 1, 1) := by decide +kernel
theorem dN_begin_51 : decode cN_begin 51 = .ok (.iconst 1, 1) := by decide +kernel
theorem dN_begin_52 : decode cN_begin 52 = .ok (.iastore, 1) := by decide +kernel
theorem dN_begin_53 : decode cN_begin 53 = .ok (.aload_n 0, 1) := by decide +kernel
theorem dN_begin_54 : decode cN_begin 54 = .ok (.getfield 56, 3) := by decide +kernel
theorem dN_begin_57 : decode cN_begin 57 = .ok (.iload_n 1, 1) := by decide +kernel
theorem dN_begin_58 : decode cN_begin 58 = .ok (.iload_n 2, 1) := by decide +kernel
theorem dN_begin_59 : decode cN_begin 59 = .ok (.iastore, 1) := by decide +kernel
theorem dN_begin_60 : decode cN_begin 60 = .ok (.iconst 0, 1) := by decide +kernel
theorem dN_begin_61 : decode cN_begin 61 = .ok (.istore_n 3, 1) := by decide +kernel
theorem dN_begin_62 : decode cN_begin 62 = .ok (.iload_n 3, 1) := by decide +kernel
theorem dN_begin_63 : decode cN_begin 63 = .ok (.bipush 6, 2) := by decide +kernel
theorem dN_begin_65 : decode cN_begin 65 = .ok (.if_icmp .ge 21, 3) := by decide +kernel
theorem dN_begin_68 : decode cN_begin 68 = .ok (.aload_n 0, 1) := by decide +kernel
theorem dN_begin_69 : decode cN_begin 69 = .ok (.getfield 59, 3) := by decide +kernel
theorem dN_begin_72 : decode cN_begin 72 = .ok (.bipush 6, 2) := by decide +kernel
theorem dN_begin_74 : decode cN_begin 74 = .ok (.iload_n 1, 1) := by decide +kernel
theorem dN_begin_75 : decode cN_begin 75 = .ok (.imul, 1) := by decide +kernel
theorem dN_begin_76 : decode cN_begin 76 = .ok (.iload_n 3, 1) := by decide +kernel
theorem dN_begin_77 : decode cN_begin 77 = .ok (.iadd, 1) := by decide +kernel
theorem dN_begin_78 : decode cN_begin 78 = .ok (.iconst 0, 1) := by decide +kernel
theorem dN_begin_79 : decode cN_begin 79 = .ok (.iastore, 1) := by decide +kernel
theorem dN_begin_80 : decode cN_begin 80 = .ok (.iinc 3 1, 3) := by decide +kernel
theorem dN_begin_83 : decode cN_begin 83 = .ok (.goto (-21), 3) := by decide +kernel
theorem dN_begin_86 : decode cN_begin 86 = .ok (.iconst 1, 1) := by decide +kernel
theorem dN_begin_87 : decode cN_begin 87 = .ok (.ireturn, 1) := by decide +kernel
theorem dN_due_0 : decode cN_due 0 = .ok (.aload_n 0, 1) := by decide +kernel
theorem dN_due_1 : decode cN_due 1 = .ok (.getfield 59, 3) := by decide +kernel
theorem dN_due_4 : decode cN_due 4 = .ok (.bipush 6, 2) := by decide +kernel
theorem dN_due_6 : decode cN_due 6 = .ok (.iload_n 1, 1) := by decide +kernel
theorem dN_due_7 : decode cN_due 7 = .ok (.imul, 1) := by decide +kernel
theorem dN_due_8 : decode cN_due 8 = .ok (.iload_n 2, 1) := by decide +kernel
theorem dN_due_9 : decode cN_due 9 = .ok (.iadd, 1) := by decide +kernel
theorem dN_due_10 : decode cN_due 10 = .ok (.iaload, 1) := by decide +kernel
theorem dN_due_11 : decode cN_due 11 = .ok (.istore_n 3, 1) := by decide +kernel
theorem dN_due_12 : decode cN_due 12 = .ok (.iconst 0, 1) := by decide +kernel
theorem dN_due_13 : decode cN_due 13 = .ok (.istore 4, 2) := by decide +kernel
theorem dN_due_15 : decode cN_due 15 = .ok (.iload 4, 2) := by decide +kernel
theorem dN_due_17 : decode cN_due 17 = .ok (.bipush 6, 2) := by decide +kernel
theorem dN_due_19 : decode cN_due 19 = .ok (.if_icmp .ge 71, 3) := by decide +kernel
theorem dN_due_22 : decode cN_due 22 = .ok (.aload_n 0, 1) := by decide +kernel
theorem dN_due_23 : decode cN_due 23 = .ok (.getfield 50, 3) := by decide +kernel
theorem dN_due_26 : decode cN_due 26 = .ok (.iload_n 1, 1) := by decide +kernel
theorem dN_due_27 : decode cN_due 27 = .ok (.iaload, 1) := by decide +kernel
theorem dN_due_28 : decode cN_due 28 = .ok (.iload 4, 2) := by decide +kernel
theorem dN_due_30 : decode cN_due 30 = .ok (.ishr, 1) := by decide +kernel
theorem dN_due_31 : decode cN_due 31 = .ok (.iconst 1, 1) := by decide +kernel
theorem dN_due_32 : decode cN_due 32 = .ok (.iand, 1) := by decide +kernel
theorem dN_due_33 : decode cN_due 33 = .ok (.iconst 1, 1) := by decide +kernel
theorem dN_due_34 : decode cN_due 34 = .ok (.if_icmp .ne 18, 3) := by decide +kernel
theorem dN_due_37 : decode cN_due 37 = .ok (.aload_n 0, 1) := by decide +kernel
theorem dN_due_38 : decode cN_due 38 = .ok (.getfield 59, 3) := by decide +kernel
theorem dN_due_41 : decode cN_due 41 = .ok (.bipush 6, 2) := by decide +kernel
theorem dN_due_43 : decode cN_due 43 = .ok (.iload_n 1, 1) := by decide +kernel
theorem dN_due_44 : decode cN_due 44 = .ok (.imul, 1) := by decide +kernel
theorem dN_due_45 : decode cN_due 45 = .ok (.iload 4, 2) := by decide +kernel
theorem dN_due_47 : decode cN_due 47 = .ok (.iadd, 1) := by decide +kernel
theorem dN_due_48 : decode cN_due 48 = .ok (.iaload, 1) := by decide +kernel
theorem dN_due_49 : decode cN_due 49 = .ok (.goto 4, 3) := by decide +kernel
theorem dN_due_52 : decode cN_due 52 = .ok (.iconst 0, 1) := by decide +kernel
theorem dN_due_53 : decode cN_due 53 = .ok (.istore 5, 2) := by decide +kernel
theorem dN_due_55 : decode cN_due 55 = .ok (.iload 5, 2) := by decide +kernel
theorem dN_due_57 : decode cN_due 57 = .ok (.ifCond .le 25, 3) := by decide +kernel
theorem dN_due_60 : decode cN_due 60 = .ok (.aload_n 0, 1) := by decide +kernel
theorem dN_due_61 : decode cN_due 61 = .ok (.iload_n 3, 1) := by decide +kernel
theorem dN_due_62 : decode cN_due 62 = .ok (.aload_n 0, 1) := by decide +kernel
theorem dN_due_63 : decode cN_due 63 = .ok (.getfield 19, 3) := by decide +kernel
theorem dN_due_66 : decode cN_due 66 = .ok (.bipush 6, 2) := by decide +kernel
theorem dN_due_68 : decode cN_due 68 = .ok (.iload 5, 2) := by decide +kernel
theorem dN_due_70 : decode cN_due 70 = .ok (.iconst 1, 1) := by decide +kernel
theorem dN_due_71 : decode cN_due 71 = .ok (.isub, 1) := by decide +kernel
theorem dN_due_72 : decode cN_due 72 = .ok (.imul, 1) := by decide +kernel
theorem dN_due_73 : decode cN_due 73 = .ok (.iload_n 2, 1) := by decide +kernel
theorem dN_due_74 : decode cN_due 74 = .ok (.iadd, 1) := by decide +kernel
theorem dN_due_75 : decode cN_due 75 = .ok (.iaload, 1) := by decide +kernel
theorem dN_due_76 : decode cN_due 76 = .ok (.invokevirtual 69, 3) := by decide +kernel
theorem dN_due_79 : decode cN_due 79 = .ok (.goto 4, 3) := by decide +kernel
theorem dN_due_82 : decode cN_due 82 = .ok (.iload_n 3, 1) := by decide +kernel
theorem dN_due_83 : decode cN_due 83 = .ok (.istore_n 3, 1) := by decide +kernel
theorem dN_due_84 : decode cN_due 84 = .ok (.iinc 4 1, 3) := by decide +kernel
theorem dN_due_87 : decode cN_due 87 = .ok (.goto (-72), 3) := by decide +kernel
theorem dN_due_90 : decode cN_due 90 = .ok (.iload_n 3, 1) := by decide +kernel
theorem dN_due_91 : decode cN_due 91 = .ok (.ireturn, 1) := by decide +kernel
theorem dN_finish_0 : decode cN_finish 0 = .ok (.aload_n 0, 1) := by decide +kernel
theorem dN_finish_1 : decode cN_finish 1 = .ok (.getfield 47, 3) := by decide +kernel
theorem dN_finish_4 : decode cN_finish 4 = .ok (.iload_n 1, 1) := by decide +kernel
theorem dN_finish_5 : decode cN_finish 5 = .ok (.iconst 3, 1) := by decide +kernel
theorem dN_finish_6 : decode cN_finish 6 = .ok (.iastore, 1) := by decide +kernel
theorem dN_finish_7 : decode cN_finish 7 = .ok (.iconst 0, 1) := by decide +kernel
theorem dN_finish_8 : decode cN_finish 8 = .ok (.istore_n 2, 1) := by decide +kernel
theorem dN_finish_9 : decode cN_finish 9 = .ok (.iload_n 2, 1) := by decide +kernel
theorem dN_finish_10 : decode cN_finish 10 = .ok (.bipush 6, 2) := by decide +kernel
theorem dN_finish_12 : decode cN_finish 12 = .ok (.if_icmp .ge 41, 3) := by decide +kernel
theorem dN_finish_15 : decode cN_finish 15 = .ok (.aload_n 0, 1) := by decide +kernel
theorem dN_finish_16 : decode cN_finish 16 = .ok (.getfield 59, 3) := by decide +kernel
theorem dN_finish_19 : decode cN_finish 19 = .ok (.bipush 6, 2) := by decide +kernel
theorem dN_finish_21 : decode cN_finish 21 = .ok (.iload_n 1, 1) := by decide +kernel
theorem dN_finish_22 : decode cN_finish 22 = .ok (.imul, 1) := by decide +kernel
theorem dN_finish_23 : decode cN_finish 23 = .ok (.iload_n 2, 1) := by decide +kernel
theorem dN_finish_24 : decode cN_finish 24 = .ok (.iadd, 1) := by decide +kernel
theorem dN_finish_25 : decode cN_finish 25 = .ok (.iaload, 1) := by decide +kernel
theorem dN_finish_26 : decode cN_finish 26 = .ok (.ifCond .le 21, 3) := by decide +kernel
theorem dN_finish_29 : decode cN_finish 29 = .ok (.aload_n 0, 1) := by decide +kernel
theorem dN_finish_30 : decode cN_finish 30 = .ok (.iload_n 1, 1) := by decide +kernel
theorem dN_finish_31 : decode cN_finish 31 = .ok (.aload_n 0, 1) := by decide +kernel
theorem dN_finish_32 : decode cN_finish 32 = .ok (.getfield 59, 3) := by decide +kernel
theorem dN_finish_35 : decode cN_finish 35 = .ok (.bipush 6, 2) := by decide +kernel
theorem dN_finish_37 : decode cN_finish 37 = .ok (.iload_n 1, 1) := by decide +kernel
theorem dN_finish_38 : decode cN_finish 38 = .ok (.imul, 1) := by decide +kernel
theorem dN_finish_39 : decode cN_finish 39 = .ok (.iload_n 2, 1) := by decide +kernel
theorem dN_finish_40 : decode cN_finish 40 = .ok (.iadd, 1) := by decide +kernel
theorem dN_finish_41 : decode cN_finish 41 = .ok (.iaload, 1) := by decide +kernel
theorem dN_finish_42 : decode cN_finish 42 = .ok (.iconst 1, 1) := by decide +kernel
theorem dN_finish_43 : decode cN_finish 43 = .ok (.isub, 1) := by decide +kernel
theorem dN_finish_44 : decode cN_finish 44 = .ok (.invokevirtual 89, 3) := by decide +kernel
theorem dN_finish_47 : decode cN_finish 47 = .ok (.iinc 2 1, 3) := by decide +kernel
theorem dN_finish_50 : decode cN_finish 50 = .ok (.goto (-41), 3) := by decide +kernel
theorem dN_finish_53 : decode cN_finish 53 = .ok (.return_, 1) := by decide +kernel
theorem dN_second_0 : decode cN_second 0 = .ok (.iconst 0, 1) := by decide +kernel
theorem dN_second_1 : decode cN_second 1 = .ok (.istore_n 2, 1) := by decide +kernel
theorem dN_second_2 : decode cN_second 2 = .ok (.iconst 0, 1) := by decide +kernel
theorem dN_second_3 : decode cN_second 3 = .ok (.istore_n 3, 1) := by decide +kernel
theorem dN_second_4 : decode cN_second 4 = .ok (.iload_n 3, 1) := by decide +kernel
theorem dN_second_5 : decode cN_second 5 = .ok (.bipush 6, 2) := by decide +kernel
theorem dN_second_7 : decode cN_second 7 = .ok (.if_icmp .ge 87, 3) := by decide +kernel
theorem dN_second_10 : decode cN_second 10 = .ok (.aload_n 0, 1) := by decide +kernel
theorem dN_second_11 : decode cN_second 11 = .ok (.getfield 62, 3) := by decide +kernel
theorem dN_second_14 : decode cN_second 14 = .ok (.bipush 6, 2) := by decide +kernel
theorem dN_second_16 : decode cN_second 16 = .ok (.iload_n 1, 1) := by decide +kernel
theorem dN_second_17 : decode cN_second 17 = .ok (.imul, 1) := by decide +kernel
theorem dN_second_18 : decode cN_second 18 = .ok (.iload_n 3, 1) := by decide +kernel
theorem dN_second_19 : decode cN_second 19 = .ok (.iadd, 1) := by decide +kernel
theorem dN_second_20 : decode cN_second 20 = .ok (.aload_n 0, 1) := by decide +kernel
theorem dN_second_21 : decode cN_second 21 = .ok (.iload_n 1, 1) := by decide +kernel
theorem dN_second_22 : decode cN_second 22 = .ok (.iload_n 3, 1) := by decide +kernel
theorem dN_second_23 : decode cN_second 23 = .ok (.invokevirtual 96, 3) := by decide +kernel
theorem dN_second_26 : decode cN_second 26 = .ok (.iastore, 1) := by decide +kernel
theorem dN_second_27 : decode cN_second 27 = .ok (.aload_n 0, 1) := by decide +kernel
theorem dN_second_28 : decode cN_second 28 = .ok (.getfield 50, 3) := by decide +kernel
theorem dN_second_31 : decode cN_second 31 = .ok (.iload_n 1, 1) := by decide +kernel
theorem dN_second_32 : decode cN_second 32 = .ok (.iaload, 1) := by decide +kernel
theorem dN_second_33 : decode cN_second 33 = .ok (.iload_n 3, 1) := by decide +kernel
theorem dN_second_34 : decode cN_second 34 = .ok (.ishr, 1) := by decide +kernel
theorem dN_second_35 : decode cN_second 35 = .ok (.iconst 1, 1) := by decide +kernel
theorem dN_second_36 : decode cN_second 36 = .ok (.iand, 1) := by decide +kernel
theorem dN_second_37 : decode cN_second 37 = .ok (.iconst 1, 1) := by decide +kernel
theorem dN_second_38 : decode cN_second 38 = .ok (.if_icmp .ne 32, 3) := by decide +kernel
theorem dN_second_41 : decode cN_second 41 = .ok (.aload_n 0, 1) := by decide +kernel
theorem dN_second_42 : decode cN_second 42 = .ok (.getfield 62, 3) := by decide +kernel
theorem dN_second_45 : decode cN_second 45 = .ok (.bipush 6, 2) := by decide +kernel
theorem dN_second_47 : decode cN_second 47 = .ok (.iload_n 1, 1) := by decide +kernel
theorem dN_second_48 : decode cN_second 48 = .ok (.imul, 1) := by decide +kernel
theorem dN_second_49 : decode cN_second 49 = .ok (.iload_n 3, 1) := by decide +kernel
theorem dN_second_50 : decode cN_second 50 = .ok (.iadd, 1) := by decide +kernel
theorem dN_second_51 : decode cN_second 51 = .ok (.iaload, 1) := by decide +kernel
theorem dN_second_52 : decode cN_second 52 = .ok (.aload_n 0, 1) := by decide +kernel
theorem dN_second_53 : decode cN_second 53 = .ok (.getfield 59, 3) := by decide +kernel
theorem dN_second_56 : decode cN_second 56 = .ok (.bipush 6, 2) := by decide +kernel
theorem dN_second_58 : decode cN_second 58 = .ok (.iload_n 1, 1) := by decide +kernel
theorem dN_second_59 : decode cN_second 59 = .ok (.imul, 1) := by decide +kernel
theorem dN_second_60 : decode cN_second 60 = .ok (.iload_n 3, 1) := by decide +kernel
theorem dN_second_61 : decode cN_second 61 = .ok (.iadd, 1) := by decide +kernel
theorem dN_second_62 : decode cN_second 62 = .ok (.iaload, 1) := by decide +kernel
theorem dN_second_63 : decode cN_second 63 = .ok (.if_icmp .eq 7, 3) := by decide +kernel
theorem dN_second_66 : decode cN_second 66 = .ok (.iconst 1, 1) := by decide +kernel
theorem dN_second_67 : decode cN_second 67 = .ok (.goto 4, 3) := by decide +kernel
theorem dN_second_70 : decode cN_second 70 = .ok (.iconst 0, 1) := by decide +kernel
theorem dN_second_71 : decode cN_second 71 = .ok (.istore 4, 2) := by decide +kernel
theorem dN_second_73 : decode cN_second 73 = .ok (.iload 4, 2) := by decide +kernel
theorem dN_second_75 : decode cN_second 75 = .ok (.ifCond .eq 11, 3) := by decide +kernel
theorem dN_second_78 : decode cN_second 78 = .ok (.iload_n 2, 1) := by decide +kernel
theorem dN_second_79 : decode cN_second 79 = .ok (.iconst 1, 1) := by decide +kernel
theorem dN_second_80 : decode cN_second 80 = .ok (.iload_n 3, 1) := by decide +kernel
theorem dN_second_81 : decode cN_second 81 = .ok (.ishl, 1) := by decide +kernel
theorem dN_second_82 : decode cN_second 82 = .ok (.ior, 1) := by decide +kernel
theorem dN_second_83 : decode cN_second 83 = .ok (.goto 4, 3) := by decide +kernel
theorem dN_second_86 : decode cN_second 86 = .ok (.iload_n 2, 1) := by decide +kernel
theorem dN_second_87 : decode cN_second 87 = .ok (.istore_n 2, 1) := by decide +kernel
theorem dN_second_88 : decode cN_second 88 = .ok (.iinc 3 1, 3) := by decide +kernel
theorem dN_second_91 : decode cN_second 91 = .ok (.goto (-87), 3) := by decide +kernel
theorem dN_second_94 : decode cN_second 94 = .ok (.aload_n 0, 1) := by decide +kernel
theorem dN_second_95 : decode cN_second 95 = .ok (.getfield 56, 3) := by decide +kernel
theorem dN_second_98 : decode cN_second 98 = .ok (.iload_n 1, 1) := by decide +kernel
theorem dN_second_99 : decode cN_second 99 = .ok (.iload_n 2, 1) := by decide +kernel
theorem dN_second_100 : decode cN_second 100 = .ok (.iastore, 1) := by decide +kernel
theorem dN_second_101 : decode cN_second 101 = .ok (.aload_n 0, 1) := by decide +kernel
theorem dN_second_102 : decode cN_second 102 = .ok (.getfield 47, 3) := by decide +kernel
theorem dN_second_105 : decode cN_second 105 = .ok (.iload_n 1, 1) := by decide +kernel
theorem dN_second_106 : decode cN_second 106 = .ok (.iconst 2, 1) := by decide +kernel
theorem dN_second_107 : decode cN_second 107 = .ok (.iastore, 1) := by decide +kernel
theorem dN_second_108 : decode cN_second 108 = .ok (.aload_n 0, 1) := by decide +kernel
theorem dN_second_109 : decode cN_second 109 = .ok (.getfield 53, 3) := by decide +kernel
theorem dN_second_112 : decode cN_second 112 = .ok (.iload_n 1, 1) := by decide +kernel
theorem dN_second_113 : decode cN_second 113 = .ok (.iload_n 2, 1) := by decide +kernel
theorem dN_second_114 : decode cN_second 114 = .ok (.ifCond .ne 7, 3) := by decide +kernel
theorem dN_second_117 : decode cN_second 117 = .ok (.iconst 1, 1) := by decide +kernel
theorem dN_second_118 : decode cN_second 118 = .ok (.goto 4, 3) := by decide +kernel
theorem dN_second_121 : decode cN_second 121 = .ok (.iconst 2, 1) := by decide +kernel
theorem dN_second_122 : decode cN_second 122 = .ok (.iastore, 1) := by decide +kernel
theorem dN_second_123 : decode cN_second 123 = .ok (.iload_n 2, 1) := by decide +kernel
theorem dN_second_124 : decode cN_second 124 = .ok (.ifCond .ne 8, 3) := by decide +kernel
theorem dN_second_127 : decode cN_second 127 = .ok (.aload_n 0, 1) := by decide +kernel
theorem dN_second_128 : decode cN_second 128 = .ok (.iload_n 1, 1) := by decide +kernel
theorem dN_second_129 : decode cN_second 129 = .ok (.invokevirtual 99, 3) := by decide +kernel
theorem dN_second_132 : decode cN_second 132 = .ok (.return_, 1) := by decide +kernel
theorem dN_read_0 : decode cN_read 0 = .ok (.iload_n 1, 1) := by decide +kernel
theorem dN_read_1 : decode cN_read 1 = .ok (.bipush 6, 2) := by decide +kernel
theorem dN_read_3 : decode cN_read 3 = .ok (.invokestatic 73, 3) := by decide +kernel
theorem dN_read_6 : decode cN_read 6 = .ok (.ifCond .eq 5, 3) := by decide +kernel
theorem dN_read_9 : decode cN_read 9 = .ok (.iconst (-1), 1) := by decide +kernel
theorem dN_read_10 : decode cN_read 10 = .ok (.ireturn, 1) := by decide +kernel
theorem dN_read_11 : decode cN_read 11 = .ok (.aload_n 0, 1) := by decide +kernel
theorem dN_read_12 : decode cN_read 12 = .ok (.iload_n 1, 1) := by decide +kernel
theorem dN_read_13 : decode cN_read 13 = .ok (.invokevirtual 77, 3) := by decide +kernel
theorem dN_read_16 : decode cN_read 16 = .ok (.ifCond .ne 6, 3) := by decide +kernel
theorem dN_read_19 : decode cN_read 19 = .ok (.bipush (-4), 2) := by decide +kernel
theorem dN_read_21 : decode cN_read 21 = .ok (.ireturn, 1) := by decide +kernel
theorem dN_read_22 : decode cN_read 22 = .ok (.aload_n 0, 1) := by decide +kernel
theorem dN_read_23 : decode cN_read 23 = .ok (.getfield 56, 3) := by decide +kernel
theorem dN_read_26 : decode cN_read 26 = .ok (.iload_n 1, 1) := by decide +kernel
theorem dN_read_27 : decode cN_read 27 = .ok (.iaload, 1) := by decide +kernel
theorem dN_read_28 : decode cN_read 28 = .ok (.invokestatic 103, 3) := by decide +kernel
theorem dN_read_31 : decode cN_read 31 = .ok (.istore_n 2, 1) := by decide +kernel
theorem dN_read_32 : decode cN_read 32 = .ok (.aload_n 0, 1) := by decide +kernel
theorem dN_read_33 : decode cN_read 33 = .ok (.getfield 56, 3) := by decide +kernel
theorem dN_read_36 : decode cN_read 36 = .ok (.iload_n 1, 1) := by decide +kernel
theorem dN_read_37 : decode cN_read 37 = .ok (.aload_n 0, 1) := by decide +kernel
theorem dN_read_38 : decode cN_read 38 = .ok (.getfield 56, 3) := by decide +kernel
theorem dN_read_41 : decode cN_read 41 = .ok (.iload_n 1, 1) := by decide +kernel
theorem dN_read_42 : decode cN_read 42 = .ok (.iaload, 1) := by decide +kernel
theorem dN_read_43 : decode cN_read 43 = .ok (.iconst 1, 1) := by decide +kernel
theorem dN_read_44 : decode cN_read 44 = .ok (.iload_n 2, 1) := by decide +kernel
theorem dN_read_45 : decode cN_read 45 = .ok (.ishl, 1) := by decide +kernel
theorem dN_read_46 : decode cN_read 46 = .ok (.iconst (-1), 1) := by decide +kernel
theorem dN_read_47 : decode cN_read 47 = .ok (.ixor, 1) := by decide +kernel
theorem dN_read_48 : decode cN_read 48 = .ok (.iand, 1) := by decide +kernel
theorem dN_read_49 : decode cN_read 49 = .ok (.iastore, 1) := by decide +kernel
theorem dN_read_50 : decode cN_read 50 = .ok (.aload_n 0, 1) := by decide +kernel
theorem dN_read_51 : decode cN_read 51 = .ok (.getfield 47, 3) := by decide +kernel
theorem dN_read_54 : decode cN_read 54 = .ok (.iload_n 1, 1) := by decide +kernel
theorem dN_read_55 : decode cN_read 55 = .ok (.iaload, 1) := by decide +kernel
theorem dN_read_56 : decode cN_read 56 = .ok (.iconst 1, 1) := by decide +kernel
theorem dN_read_57 : decode cN_read 57 = .ok (.if_icmp .ne 39, 3) := by decide +kernel
theorem dN_read_60 : decode cN_read 60 = .ok (.aload_n 0, 1) := by decide +kernel
theorem dN_read_61 : decode cN_read 61 = .ok (.getfield 59, 3) := by decide +kernel
theorem dN_read_64 : decode cN_read 64 = .ok (.bipush 6, 2) := by decide +kernel
theorem dN_read_66 : decode cN_read 66 = .ok (.iload_n 1, 1) := by decide +kernel
theorem dN_read_67 : decode cN_read 67 = .ok (.imul, 1) := by decide +kernel
theorem dN_read_68 : decode cN_read 68 = .ok (.iload_n 2, 1) := by decide +kernel
theorem dN_read_69 : decode cN_read 69 = .ok (.iadd, 1) := by decide +kernel
theorem dN_read_70 : decode cN_read 70 = .ok (.aload_n 0, 1) := by decide +kernel
theorem dN_read_71 : decode cN_read 71 = .ok (.iload_n 1, 1) := by decide +kernel
theorem dN_read_72 : decode cN_read 72 = .ok (.iconst 3, 1) := by decide +kernel
theorem dN_read_73 : decode cN_read 73 = .ok (.irem, 1) := by decide +kernel
theorem dN_read_74 : decode cN_read 74 = .ok (.iload_n 2, 1) := by decide +kernel
theorem dN_read_75 : decode cN_read 75 = .ok (.invokevirtual 93, 3) := by decide +kernel
theorem dN_read_78 : decode cN_read 78 = .ok (.iastore, 1) := by decide +kernel
theorem dN_read_79 : decode cN_read 79 = .ok (.aload_n 0, 1) := by decide +kernel
theorem dN_read_80 : decode cN_read 80 = .ok (.getfield 56, 3) := by decide +kernel
theorem dN_read_83 : decode cN_read 83 = .ok (.iload_n 1, 1) := by decide +kernel
theorem dN_read_84 : decode cN_read 84 = .ok (.iaload, 1) := by decide +kernel
theorem dN_read_85 : decode cN_read 85 = .ok (.ifCond .ne 47, 3) := by decide +kernel
theorem dN_read_88 : decode cN_read 88 = .ok (.aload_n 0, 1) := by decide +kernel
theorem dN_read_89 : decode cN_read 89 = .ok (.iload_n 1, 1) := by decide +kernel
theorem dN_read_90 : decode cN_read 90 = .ok (.invokevirtual 106, 3) := by decide +kernel
theorem dN_read_93 : decode cN_read 93 = .ok (.goto 39, 3) := by decide +kernel
theorem dN_read_96 : decode cN_read 96 = .ok (.aload_n 0, 1) := by decide +kernel
theorem dN_read_97 : decode cN_read 97 = .ok (.getfield 59, 3) := by decide +kernel
theorem dN_read_100 : decode cN_read 100 = .ok (.bipush 6, 2) := by decide +kernel
theorem dN_read_102 : decode cN_read 102 = .ok (.iload_n 1, 1) := by decide +kernel
theorem dN_read_103 : decode cN_read 103 = .ok (.imul, 1) := by decide +kernel
theorem dN_read_104 : decode cN_read 104 = .ok (.iload_n 2, 1) := by decide +kernel
theorem dN_read_105 : decode cN_read 105 = .ok (.iadd, 1) := by decide +kernel
theorem dN_read_106 : decode cN_read 106 = .ok (.aload_n 0, 1) := by decide +kernel
theorem dN_read_107 : decode cN_read 107 = .ok (.getfield 62, 3) := by decide +kernel
theorem dN_read_110 : decode cN_read 110 = .ok (.bipush 6, 2) := by decide +kernel
theorem dN_read_112 : decode cN_read 112 = .ok (.iload_n 1, 1) := by decide +kernel
theorem dN_read_113 : decode cN_read 113 = .ok (.imul, 1) := by decide +kernel
theorem dN_read_114 : decode cN_read 114 = .ok (.iload_n 2, 1) := by decide +kernel
theorem dN_read_115 : decode cN_read 115 = .ok (.iadd, 1) := by decide +kernel
theorem dN_read_116 : decode cN_read 116 = .ok (.iaload, 1) := by decide +kernel
theorem dN_read_117 : decode cN_read 117 = .ok (.iastore, 1) := by decide +kernel
theorem dN_read_118 : decode cN_read 118 = .ok (.aload_n 0, 1) := by decide +kernel
theorem dN_read_119 : decode cN_read 119 = .ok (.getfield 56, 3) := by decide +kernel
theorem dN_read_122 : decode cN_read 122 = .ok (.iload_n 1, 1) := by decide +kernel
theorem dN_read_123 : decode cN_read 123 = .ok (.iaload, 1) := by decide +kernel
theorem dN_read_124 : decode cN_read 124 = .ok (.ifCond .ne 8, 3) := by decide +kernel
theorem dN_read_127 : decode cN_read 127 = .ok (.aload_n 0, 1) := by decide +kernel
theorem dN_read_128 : decode cN_read 128 = .ok (.iload_n 1, 1) := by decide +kernel
theorem dN_read_129 : decode cN_read 129 = .ok (.invokevirtual 99, 3) := by decide +kernel
theorem dN_read_132 : decode cN_read 132 = .ok (.aload_n 0, 1) := by decide +kernel
theorem dN_read_133 : decode cN_read 133 = .ok (.getfield 56, 3) := by decide +kernel
theorem dN_read_136 : decode cN_read 136 = .ok (.iload_n 1, 1) := by decide +kernel
theorem dN_read_137 : decode cN_read 137 = .ok (.iaload, 1) := by decide +kernel
theorem dN_read_138 : decode cN_read 138 = .ok (.invokestatic 109, 3) := by decide +kernel
theorem dN_read_141 : decode cN_read 141 = .ok (.ireturn, 1) := by decide +kernel
theorem dN_got_0 : decode cN_got 0 = .ok (.iload_n 1, 1) := by decide +kernel
theorem dN_got_1 : decode cN_got 1 = .ok (.bipush 6, 2) := by decide +kernel
theorem dN_got_3 : decode cN_got 3 = .ok (.invokestatic 73, 3) := by decide +kernel
theorem dN_got_6 : decode cN_got 6 = .ok (.ifCond .ne 12, 3) := by decide +kernel
theorem dN_got_9 : decode cN_got 9 = .ok (.iload_n 2, 1) := by decide +kernel
theorem dN_got_10 : decode cN_got 10 = .ok (.bipush 6, 2) := by decide +kernel
theorem dN_got_12 : decode cN_got 12 = .ok (.invokestatic 73, 3) := by decide +kernel
theorem dN_got_15 : decode cN_got 15 = .ok (.ifCond .eq 5, 3) := by decide +kernel
theorem dN_got_18 : decode cN_got 18 = .ok (.iconst (-1), 1) := by decide +kernel
theorem dN_got_19 : decode cN_got 19 = .ok (.ireturn, 1) := by decide +kernel
theorem dN_got_20 : decode cN_got 20 = .ok (.aload_n 0, 1) := by decide +kernel
theorem dN_got_21 : decode cN_got 21 = .ok (.getfield 59, 3) := by decide +kernel
theorem dN_got_24 : decode cN_got 24 = .ok (.bipush 6, 2) := by decide +kernel
theorem dN_got_26 : decode cN_got 26 = .ok (.iload_n 1, 1) := by decide +kernel
theorem dN_got_27 : decode cN_got 27 = .ok (.imul, 1) := by decide +kernel
theorem dN_got_28 : decode cN_got 28 = .ok (.iload_n 2, 1) := by decide +kernel
theorem dN_got_29 : decode cN_got 29 = .ok (.iadd, 1) := by decide +kernel
theorem dN_got_30 : decode cN_got 30 = .ok (.iaload, 1) := by decide +kernel
theorem dN_got_31 : decode cN_got 31 = .ok (.ifCond .ne 8, 3) := by decide +kernel
theorem dN_got_34 : decode cN_got 34 = .ok (.bipush (-4), 2) := by decide +kernel
theorem dN_got_36 : decode cN_got 36 = .ok (.goto 16, 3) := by decide +kernel
theorem dN_got_39 : decode cN_got 39 = .ok (.aload_n 0, 1) := by decide +kernel
theorem dN_got_40 : decode cN_got 40 = .ok (.getfield 59, 3) := by decide +kernel
theorem dN_got_43 : decode cN_got 43 = .ok (.bipush 6, 2) := by decide +kernel
theorem dN_got_45 : decode cN_got 45 = .ok (.iload_n 1, 1) := by decide +kernel
theorem dN_got_46 : decode cN_got 46 = .ok (.imul, 1) := by decide +kernel
theorem dN_got_47 : decode cN_got 47 = .ok (.iload_n 2, 1) := by decide +kernel
theorem dN_got_48 : decode cN_got 48 = .ok (.iadd, 1) := by decide +kernel
theorem dN_got_49 : decode cN_got 49 = .ok (.iaload, 1) := by decide +kernel
theorem dN_got_50 : decode cN_got 50 = .ok (.iconst 1, 1) := by decide +kernel
theorem dN_got_51 : decode cN_got 51 = .ok (.isub, 1) := by decide +kernel
theorem dN_got_52 : decode cN_got 52 = .ok (.ireturn, 1) := by decide +kernel
theorem dN_rounds_0 : decode cN_rounds 0 = .ok (.iload_n 1, 1) := by decide +kernel
theorem dN_rounds_1 : decode cN_rounds 1 = .ok (.bipush 6, 2) := by decide +kernel
theorem dN_rounds_3 : decode cN_rounds 3 = .ok (.invokestatic 73, 3) := by decide +kernel
theorem dN_rounds_6 : decode cN_rounds 6 = .ok (.ifCond .eq 7, 3) := by decide +kernel
theorem dN_rounds_9 : decode cN_rounds 9 = .ok (.iconst (-1), 1) := by decide +kernel
theorem dN_rounds_10 : decode cN_rounds 10 = .ok (.goto 9, 3) := by decide +kernel
theorem dN_rounds_13 : decode cN_rounds 13 = .ok (.aload_n 0, 1) := by decide +kernel
theorem dN_rounds_14 : decode cN_rounds 14 = .ok (.getfield 53, 3) := by decide +kernel
theorem dN_rounds_17 : decode cN_rounds 17 = .ok (.iload_n 1, 1) := by decide +kernel
theorem dN_rounds_18 : decode cN_rounds 18 = .ok (.iaload, 1) := by decide +kernel
theorem dN_rounds_19 : decode cN_rounds 19 = .ok (.ireturn, 1) := by decide +kernel
theorem dN_link_0 : decode cN_link 0 = .ok (.iload_n 1, 1) := by decide +kernel
theorem dN_link_1 : decode cN_link 1 = .ok (.iconst 3, 1) := by decide +kernel
theorem dN_link_2 : decode cN_link 2 = .ok (.invokestatic 73, 3) := by decide +kernel
theorem dN_link_5 : decode cN_link 5 = .ok (.ifCond .ne 20, 3) := by decide +kernel
theorem dN_link_8 : decode cN_link 8 = .ok (.iload_n 2, 1) := by decide +kernel
theorem dN_link_9 : decode cN_link 9 = .ok (.iconst 3, 1) := by decide +kernel
theorem dN_link_10 : decode cN_link 10 = .ok (.invokestatic 73, 3) := by decide +kernel
theorem dN_link_13 : decode cN_link 13 = .ok (.ifCond .ne 12, 3) := by decide +kernel
theorem dN_link_16 : decode cN_link 16 = .ok (.iload_n 1, 1) := by decide +kernel
theorem dN_link_17 : decode cN_link 17 = .ok (.iload_n 2, 1) := by decide +kernel
theorem dN_link_18 : decode cN_link 18 = .ok (.if_icmp .eq 7, 3) := by decide +kernel
theorem dN_link_21 : decode cN_link 21 = .ok (.iconst 1, 1) := by decide +kernel
theorem dN_link_22 : decode cN_link 22 = .ok (.goto 4, 3) := by decide +kernel
theorem dN_link_25 : decode cN_link 25 = .ok (.iconst 0, 1) := by decide +kernel
theorem dN_link_26 : decode cN_link 26 = .ok (.ireturn, 1) := by decide +kernel
theorem dN_deliver_0 : decode cN_deliver 0 = .ok (.aload_n 0, 1) := by decide +kernel
theorem dN_deliver_1 : decode cN_deliver 1 = .ok (.iload_n 1, 1) := by decide +kernel
theorem dN_deliver_2 : decode cN_deliver 2 = .ok (.iload_n 2, 1) := by decide +kernel
theorem dN_deliver_3 : decode cN_deliver 3 = .ok (.invokevirtual 112, 3) := by decide +kernel
theorem dN_deliver_6 : decode cN_deliver 6 = .ok (.ifCond .ne 5, 3) := by decide +kernel
theorem dN_deliver_9 : decode cN_deliver 9 = .ok (.iconst 0, 1) := by decide +kernel
theorem dN_deliver_10 : decode cN_deliver 10 = .ok (.ireturn, 1) := by decide +kernel
theorem dN_deliver_11 : decode cN_deliver 11 = .ok (.iconst 3, 1) := by decide +kernel
theorem dN_deliver_12 : decode cN_deliver 12 = .ok (.iload_n 1, 1) := by decide +kernel
theorem dN_deliver_13 : decode cN_deliver 13 = .ok (.imul, 1) := by decide +kernel
theorem dN_deliver_14 : decode cN_deliver 14 = .ok (.iload_n 2, 1) := by decide +kernel
theorem dN_deliver_15 : decode cN_deliver 15 = .ok (.iadd, 1) := by decide +kernel
theorem dN_deliver_16 : decode cN_deliver 16 = .ok (.istore 4, 2) := by decide +kernel
theorem dN_deliver_18 : decode cN_deliver 18 = .ok (.iload_n 3, 1) := by decide +kernel
theorem dN_deliver_19 : decode cN_deliver 19 = .ok (.aload_n 0, 1) := by decide +kernel
theorem dN_deliver_20 : decode cN_deliver 20 = .ok (.getfield 38, 3) := by decide +kernel
theorem dN_deliver_23 : decode cN_deliver 23 = .ok (.iload 4, 2) := by decide +kernel
theorem dN_deliver_25 : decode cN_deliver 25 = .ok (.iaload, 1) := by decide +kernel
theorem dN_deliver_26 : decode cN_deliver 26 = .ok (.invokestatic 73, 3) := by decide +kernel
theorem dN_deliver_29 : decode cN_deliver 29 = .ok (.ifCond .eq 5, 3) := by decide +kernel
theorem dN_deliver_32 : decode cN_deliver 32 = .ok (.iconst 0, 1) := by decide +kernel
theorem dN_deliver_33 : decode cN_deliver 33 = .ok (.ireturn, 1) := by decide +kernel
theorem dN_deliver_34 : decode cN_deliver 34 = .ok (.aload_n 0, 1) := by decide +kernel
theorem dN_deliver_35 : decode cN_deliver 35 = .ok (.getfield 41, 3) := by decide +kernel
theorem dN_deliver_38 : decode cN_deliver 38 = .ok (.bipush 40, 2) := by decide +kernel
theorem dN_deliver_40 : decode cN_deliver 40 = .ok (.iload 4, 2) := by decide +kernel
theorem dN_deliver_42 : decode cN_deliver 42 = .ok (.imul, 1) := by decide +kernel
theorem dN_deliver_43 : decode cN_deliver 43 = .ok (.iload_n 3, 1) := by decide +kernel
theorem dN_deliver_44 : decode cN_deliver 44 = .ok (.iadd, 1) := by decide +kernel
theorem dN_deliver_45 : decode cN_deliver 45 = .ok (.iaload, 1) := by decide +kernel
theorem dN_deliver_46 : decode cN_deliver 46 = .ok (.istore 5, 2) := by decide +kernel
theorem dN_deliver_48 : decode cN_deliver 48 = .ok (.aload_n 0, 1) := by decide +kernel
theorem dN_deliver_49 : decode cN_deliver 49 = .ok (.getfield 38, 3) := by decide +kernel
theorem dN_deliver_52 : decode cN_deliver 52 = .ok (.iload 4, 2) := by decide +kernel
theorem dN_deliver_54 : decode cN_deliver 54 = .ok (.dup2, 1) := by decide +kernel
theorem dN_deliver_55 : decode cN_deliver 55 = .ok (.iaload, 1) := by decide +kernel
theorem dN_deliver_56 : decode cN_deliver 56 = .ok (.iconst 1, 1) := by decide +kernel
theorem dN_deliver_57 : decode cN_deliver 57 = .ok (.isub, 1) := by decide +kernel
theorem dN_deliver_58 : decode cN_deliver 58 = .ok (.iastore, 1) := by decide +kernel
theorem dN_deliver_59 : decode cN_deliver 59 = .ok (.iload_n 3, 1) := by decide +kernel
theorem dN_deliver_60 : decode cN_deliver 60 = .ok (.istore 6, 2) := by decide +kernel
theorem dN_deliver_62 : decode cN_deliver 62 = .ok (.iload 6, 2) := by decide +kernel
theorem dN_deliver_64 : decode cN_deliver 64 = .ok (.aload_n 0, 1) := by decide +kernel
theorem dN_deliver_65 : decode cN_deliver 65 = .ok (.getfield 38, 3) := by decide +kernel
theorem dN_deliver_68 : decode cN_deliver 68 = .ok (.iload 4, 2) := by decide +kernel
theorem dN_deliver_70 : decode cN_deliver 70 = .ok (.iaload, 1) := by decide +kernel
theorem dN_deliver_71 : decode cN_deliver 71 = .ok (.if_icmp .ge 37, 3) := by decide +kernel
theorem dN_deliver_74 : decode cN_deliver 74 = .ok (.aload_n 0, 1) := by decide +kernel
theorem dN_deliver_75 : decode cN_deliver 75 = .ok (.getfield 41, 3) := by decide +kernel
theorem dN_deliver_78 : decode cN_deliver 78 = .ok (.bipush 40, 2) := by decide +kernel
theorem dN_deliver_80 : decode cN_deliver 80 = .ok (.iload 4, 2) := by decide +kernel
theorem dN_deliver_82 : decode cN_deliver 82 = .ok (.imul, 1) := by decide +kernel
theorem dN_deliver_83 : decode cN_deliver 83 = .ok (.iload 6, 2) := by decide +kernel
theorem dN_deliver_85 : decode cN_deliver 85 = .ok (.iadd, 1) := by decide +kernel
theorem dN_deliver_86 : decode cN_deliver 86 = .ok (.aload_n 0, 1) := by decide +kernel
theorem dN_deliver_87 : decode cN_deliver 87 = .ok (.getfield 41, 3) := by decide +kernel
theorem dN_deliver_90 : decode cN_deliver 90 = .ok (.bipush 40, 2) := by decide +kernel
theorem dN_deliver_92 : decode cN_deliver 92 = .ok (.iload 4, 2) := by decide +kernel
theorem dN_deliver_94 : decode cN_deliver 94 = .ok (.imul, 1) := by decide +kernel
theorem dN_deliver_95 : decode cN_deliver 95 = .ok (.iload 6, 2) := by decide +kernel
theorem dN_deliver_97 : decode cN_deliver 97 = .ok (.iadd, 1) := by decide +kernel
theorem dN_deliver_98 : decode cN_deliver 98 = .ok (.iconst 1, 1) := by decide +kernel
theorem dN_deliver_99 : decode cN_deliver 99 = .ok (.iadd, 1) := by decide +kernel
theorem dN_deliver_100 : decode cN_deliver 100 = .ok (.iaload, 1) := by decide +kernel
theorem dN_deliver_101 : decode cN_deliver 101 = .ok (.iastore, 1) := by decide +kernel
theorem dN_deliver_102 : decode cN_deliver 102 = .ok (.iinc 6 1, 3) := by decide +kernel
theorem dN_deliver_105 : decode cN_deliver 105 = .ok (.goto (-43), 3) := by decide +kernel
theorem dN_deliver_108 : decode cN_deliver 108 = .ok (.iconst 2, 1) := by decide +kernel
theorem dN_deliver_109 : decode cN_deliver 109 = .ok (.iload_n 2, 1) := by decide +kernel
theorem dN_deliver_110 : decode cN_deliver 110 = .ok (.imul, 1) := by decide +kernel
theorem dN_deliver_111 : decode cN_deliver 111 = .ok (.aload_n 0, 1) := by decide +kernel
theorem dN_deliver_112 : decode cN_deliver 112 = .ok (.getfield 7, 3) := by decide +kernel
theorem dN_deliver_115 : decode cN_deliver 115 = .ok (.iload 5, 2) := by decide +kernel
theorem dN_deliver_117 : decode cN_deliver 117 = .ok (.iaload, 1) := by decide +kernel
theorem dN_deliver_118 : decode cN_deliver 118 = .ok (.iconst 2, 1) := by decide +kernel
theorem dN_deliver_119 : decode cN_deliver 119 = .ok (.irem, 1) := by decide +kernel
theorem dN_deliver_120 : decode cN_deliver 120 = .ok (.iadd, 1) := by decide +kernel
theorem dN_deliver_121 : decode cN_deliver 121 = .ok (.istore 6, 2) := by decide +kernel
theorem dN_deliver_123 : decode cN_deliver 123 = .ok (.aload_n 0, 1) := by decide +kernel
theorem dN_deliver_124 : decode cN_deliver 124 = .ok (.getfield 29, 3) := by decide +kernel
theorem dN_deliver_127 : decode cN_deliver 127 = .ok (.iload 6, 2) := by decide +kernel
theorem dN_deliver_129 : decode cN_deliver 129 = .ok (.aload_n 0, 1) := by decide +kernel
theorem dN_deliver_130 : decode cN_deliver 130 = .ok (.getfield 16, 3) := by decide +kernel
theorem dN_deliver_133 : decode cN_deliver 133 = .ok (.iload 5, 2) := by decide +kernel
theorem dN_deliver_135 : decode cN_deliver 135 = .ok (.iaload, 1) := by decide +kernel
theorem dN_deliver_136 : decode cN_deliver 136 = .ok (.iconst 4, 1) := by decide +kernel
theorem dN_deliver_137 : decode cN_deliver 137 = .ok (.idiv, 1) := by decide +kernel
theorem dN_deliver_138 : decode cN_deliver 138 = .ok (.aload_n 0, 1) := by decide +kernel
theorem dN_deliver_139 : decode cN_deliver 139 = .ok (.getfield 29, 3) := by decide +kernel
theorem dN_deliver_142 : decode cN_deliver 142 = .ok (.iload 6, 2) := by decide +kernel
theorem dN_deliver_144 : decode cN_deliver 144 = .ok (.iaload, 1) := by decide +kernel
theorem dN_deliver_145 : decode cN_deliver 145 = .ok (.if_icmp .le 15, 3) := by decide +kernel
theorem dN_deliver_148 : decode cN_deliver 148 = .ok (.aload_n 0, 1) := by decide +kernel
theorem dN_deliver_149 : decode cN_deliver 149 = .ok (.getfield 16, 3) := by decide +kernel
theorem dN_deliver_152 : decode cN_deliver 152 = .ok (.iload 5, 2) := by decide +kernel
theorem dN_deliver_154 : decode cN_deliver 154 = .ok (.iaload, 1) := by decide +kernel
theorem dN_deliver_155 : decode cN_deliver 155 = .ok (.iconst 4, 1) := by decide +kernel
theorem dN_deliver_156 : decode cN_deliver 156 = .ok (.idiv, 1) := by decide +kernel
theorem dN_deliver_157 : decode cN_deliver 157 = .ok (.goto 10, 3) := by decide +kernel
theorem dN_deliver_160 : decode cN_deliver 160 = .ok (.aload_n 0, 1) := by decide +kernel
theorem dN_deliver_161 : decode cN_deliver 161 = .ok (.getfield 29, 3) := by decide +kernel
theorem dN_deliver_164 : decode cN_deliver 164 = .ok (.iload 6, 2) := by decide +kernel
theorem dN_deliver_166 : decode cN_deliver 166 = .ok (.iaload, 1) := by decide +kernel
theorem dN_deliver_167 : decode cN_deliver 167 = .ok (.iastore, 1) := by decide +kernel
theorem dN_deliver_168 : decode cN_deliver 168 = .ok (.aload_n 0, 1) := by decide +kernel
theorem dN_deliver_169 : decode cN_deliver 169 = .ok (.getfield 35, 3) := by decide +kernel
theorem dN_deliver_172 : decode cN_deliver 172 = .ok (.bipush 40, 2) := by decide +kernel
theorem dN_deliver_174 : decode cN_deliver 174 = .ok (.iload 6, 2) := by decide +kernel
theorem dN_deliver_176 : decode cN_deliver 176 = .ok (.imul, 1) := by decide +kernel
theorem dN_deliver_177 : decode cN_deliver 177 = .ok (.aload_n 0, 1) := by decide +kernel
theorem dN_deliver_178 : decode cN_deliver 178 = .ok (.getfield 32, 3) := by decide +kernel
theorem dN_deliver_181 : decode cN_deliver 181 = .ok (.iload 6, 2) := by decide +kernel
theorem dN_deliver_183 : decode cN_deliver 183 = .ok (.iaload, 1) := by decide +kernel
theorem dN_deliver_184 : decode cN_deliver 184 = .ok (.iadd, 1) := by decide +kernel
theorem dN_deliver_185 : decode cN_deliver 185 = .ok (.iload 5, 2) := by decide +kernel
theorem dN_deliver_187 : decode cN_deliver 187 = .ok (.iastore, 1) := by decide +kernel
theorem dN_deliver_188 : decode cN_deliver 188 = .ok (.aload_n 0, 1) := by decide +kernel
theorem dN_deliver_189 : decode cN_deliver 189 = .ok (.getfield 32, 3) := by decide +kernel
theorem dN_deliver_192 : decode cN_deliver 192 = .ok (.iload 6, 2) := by decide +kernel
theorem dN_deliver_194 : decode cN_deliver 194 = .ok (.dup2, 1) := by decide +kernel
theorem dN_deliver_195 : decode cN_deliver 195 = .ok (.iaload, 1) := by decide +kernel
theorem dN_deliver_196 : decode cN_deliver 196 = .ok (.iconst 1, 1) := by decide +kernel
theorem dN_deliver_197 : decode cN_deliver 197 = .ok (.iadd, 1) := by decide +kernel
theorem dN_deliver_198 : decode cN_deliver 198 = .ok (.iastore, 1) := by decide +kernel
theorem dN_deliver_199 : decode cN_deliver 199 = .ok (.iconst 1, 1) := by decide +kernel
theorem dN_deliver_200 : decode cN_deliver 200 = .ok (.ireturn, 1) := by decide +kernel
theorem dN_missing_0 : decode cN_missing 0 = .ok (.iconst 0, 1) := by decide +kernel
theorem dN_missing_1 : decode cN_missing 1 = .ok (.istore_n 3, 1) := by decide +kernel
theorem dN_missing_2 : decode cN_missing 2 = .ok (.iconst 0, 1) := by decide +kernel
theorem dN_missing_3 : decode cN_missing 3 = .ok (.istore 4, 2) := by decide +kernel
theorem dN_missing_5 : decode cN_missing 5 = .ok (.iload 4, 2) := by decide +kernel
theorem dN_missing_7 : decode cN_missing 7 = .ok (.bipush 6, 2) := by decide +kernel
theorem dN_missing_9 : decode cN_missing 9 = .ok (.if_icmp .ge 71, 3) := by decide +kernel
theorem dN_missing_12 : decode cN_missing 12 = .ok (.aload_n 0, 1) := by decide +kernel
theorem dN_missing_13 : decode cN_missing 13 = .ok (.getfield 22, 3) := by decide +kernel
theorem dN_missing_16 : decode cN_missing 16 = .ok (.iload_n 2, 1) := by decide +kernel
theorem dN_missing_17 : decode cN_missing 17 = .ok (.iaload, 1) := by decide +kernel
theorem dN_missing_18 : decode cN_missing 18 = .ok (.iload 4, 2) := by decide +kernel
theorem dN_missing_20 : decode cN_missing 20 = .ok (.ishr, 1) := by decide +kernel
theorem dN_missing_21 : decode cN_missing 21 = .ok (.iconst 1, 1) := by decide +kernel
theorem dN_missing_22 : decode cN_missing 22 = .ok (.iand, 1) := by decide +kernel
theorem dN_missing_23 : decode cN_missing 23 = .ok (.iconst 1, 1) := by decide +kernel
theorem dN_missing_24 : decode cN_missing 24 = .ok (.if_icmp .ne 7, 3) := by decide +kernel
theorem dN_missing_27 : decode cN_missing 27 = .ok (.iconst 1, 1) := by decide +kernel
theorem dN_missing_28 : decode cN_missing 28 = .ok (.goto 4, 3) := by decide +kernel
theorem dN_missing_31 : decode cN_missing 31 = .ok (.iconst 0, 1) := by decide +kernel
theorem dN_missing_32 : decode cN_missing 32 = .ok (.istore 5, 2) := by decide +kernel
theorem dN_missing_34 : decode cN_missing 34 = .ok (.iload 5, 2) := by decide +kernel
theorem dN_missing_36 : decode cN_missing 36 = .ok (.ifCond .eq 36, 3) := by decide +kernel
theorem dN_missing_39 : decode cN_missing 39 = .ok (.aload_n 0, 1) := by decide +kernel
theorem dN_missing_40 : decode cN_missing 40 = .ok (.getfield 25, 3) := by decide +kernel
theorem dN_missing_43 : decode cN_missing 43 = .ok (.bipush 40, 2) := by decide +kernel
theorem dN_missing_45 : decode cN_missing 45 = .ok (.iload_n 1, 1) := by decide +kernel
theorem dN_missing_46 : decode cN_missing 46 = .ok (.imul, 1) := by decide +kernel
theorem dN_missing_47 : decode cN_missing 47 = .ok (.aload_n 0, 1) := by decide +kernel
theorem dN_missing_48 : decode cN_missing 48 = .ok (.getfield 19, 3) := by decide +kernel
theorem dN_missing_51 : decode cN_missing 51 = .ok (.bipush 6, 2) := by decide +kernel
theorem dN_missing_53 : decode cN_missing 53 = .ok (.iload_n 2, 1) := by decide +kernel
theorem dN_missing_54 : decode cN_missing 54 = .ok (.imul, 1) := by decide +kernel
theorem dN_missing_55 : decode cN_missing 55 = .ok (.iload 4, 2) := by decide +kernel
theorem dN_missing_57 : decode cN_missing 57 = .ok (.iadd, 1) := by decide +kernel
theorem dN_missing_58 : decode cN_missing 58 = .ok (.iaload, 1) := by decide +kernel
theorem dN_missing_59 : decode cN_missing 59 = .ok (.iadd, 1) := by decide +kernel
theorem dN_missing_60 : decode cN_missing 60 = .ok (.iconst 1, 1) := by decide +kernel
theorem dN_missing_61 : decode cN_missing 61 = .ok (.isub, 1) := by decide +kernel
theorem dN_missing_62 : decode cN_missing 62 = .ok (.baload, 1) := by decide +kernel
theorem dN_missing_63 : decode cN_missing 63 = .ok (.ifCond .ne 9, 3) := by decide +kernel
theorem dN_missing_66 : decode cN_missing 66 = .ok (.iload_n 3, 1) := by decide +kernel
theorem dN_missing_67 : decode cN_missing 67 = .ok (.iconst 1, 1) := by decide +kernel
theorem dN_missing_68 : decode cN_missing 68 = .ok (.iadd, 1) := by decide +kernel
theorem dN_missing_69 : decode cN_missing 69 = .ok (.goto 4, 3) := by decide +kernel
theorem dN_missing_72 : decode cN_missing 72 = .ok (.iload_n 3, 1) := by decide +kernel
theorem dN_missing_73 : decode cN_missing 73 = .ok (.istore_n 3, 1) := by decide +kernel
theorem dN_missing_74 : decode cN_missing 74 = .ok (.iinc 4 1, 3) := by decide +kernel
theorem dN_missing_77 : decode cN_missing 77 = .ok (.goto (-72), 3) := by decide +kernel
theorem dN_missing_80 : decode cN_missing 80 = .ok (.iload_n 3, 1) := by decide +kernel
theorem dN_missing_81 : decode cN_missing 81 = .ok (.ireturn, 1) := by decide +kernel
theorem dN_serve_0 : decode cN_serve 0 = .ok (.iload_n 1, 1) := by decide +kernel
theorem dN_serve_1 : decode cN_serve 1 = .ok (.iconst 3, 1) := by decide +kernel
theorem dN_serve_2 : decode cN_serve 2 = .ok (.invokestatic 73, 3) := by decide +kernel
theorem dN_serve_5 : decode cN_serve 5 = .ok (.ifCond .ne 11, 3) := by decide +kernel
theorem dN_serve_8 : decode cN_serve 8 = .ok (.iload_n 2, 1) := by decide +kernel
theorem dN_serve_9 : decode cN_serve 9 = .ok (.iconst 2, 1) := by decide +kernel
theorem dN_serve_10 : decode cN_serve 10 = .ok (.invokestatic 73, 3) := by decide +kernel
theorem dN_serve_13 : decode cN_serve 13 = .ok (.ifCond .eq 5, 3) := by decide +kernel
theorem dN_serve_16 : decode cN_serve 16 = .ok (.iconst (-1), 1) := by decide +kernel
theorem dN_serve_17 : decode cN_serve 17 = .ok (.ireturn, 1) := by decide +kernel
theorem dN_serve_18 : decode cN_serve 18 = .ok (.iconst 2, 1) := by decide +kernel
theorem dN_serve_19 : decode cN_serve 19 = .ok (.iload_n 1, 1) := by decide +kernel
theorem dN_serve_20 : decode cN_serve 20 = .ok (.imul, 1) := by decide +kernel
theorem dN_serve_21 : decode cN_serve 21 = .ok (.iload_n 2, 1) := by decide +kernel
theorem dN_serve_22 : decode cN_serve 22 = .ok (.iadd, 1) := by decide +kernel
theorem dN_serve_23 : decode cN_serve 23 = .ok (.istore_n 3, 1) := by decide +kernel
theorem dN_serve_24 : decode cN_serve 24 = .ok (.iconst 0, 1) := by decide +kernel
theorem dN_serve_25 : decode cN_serve 25 = .ok (.istore 4, 2) := by decide +kernel
theorem dN_serve_27 : decode cN_serve 27 = .ok (.aload_n 0, 1) := by decide +kernel
theorem dN_serve_28 : decode cN_serve 28 = .ok (.getfield 32, 3) := by decide +kernel
theorem dN_serve_31 : decode cN_serve 31 = .ok (.iload_n 3, 1) := by decide +kernel
theorem dN_serve_32 : decode cN_serve 32 = .ok (.iaload, 1) := by decide +kernel
theorem dN_serve_33 : decode cN_serve 33 = .ok (.istore 5, 2) := by decide +kernel
theorem dN_serve_35 : decode cN_serve 35 = .ok (.iconst 0, 1) := by decide +kernel
theorem dN_serve_36 : decode cN_serve 36 = .ok (.istore 6, 2) := by decide +kernel
theorem dN_serve_38 : decode cN_serve 38 = .ok (.iload 6, 2) := by decide +kernel
theorem dN_serve_40 : decode cN_serve 40 = .ok (.iload 5, 2) := by decide +kernel
theorem dN_serve_42 : decode cN_serve 42 = .ok (.if_icmp .ge 66, 3) := by decide +kernel
theorem dN_serve_45 : decode cN_serve 45 = .ok (.aload_n 0, 1) := by decide +kernel
theorem dN_serve_46 : decode cN_serve 46 = .ok (.getfield 35, 3) := by decide +kernel
theorem dN_serve_49 : decode cN_serve 49 = .ok (.bipush 40, 2) := by decide +kernel
theorem dN_serve_51 : decode cN_serve 51 = .ok (.iload_n 3, 1) := by decide +kernel
theorem dN_serve_52 : decode cN_serve 52 = .ok (.imul, 1) := by decide +kernel
theorem dN_serve_53 : decode cN_serve 53 = .ok (.iload 6, 2) := by decide +kernel
theorem dN_serve_55 : decode cN_serve 55 = .ok (.iadd, 1) := by decide +kernel
theorem dN_serve_56 : decode cN_serve 56 = .ok (.iaload, 1) := by decide +kernel
theorem dN_serve_57 : decode cN_serve 57 = .ok (.istore 7, 2) := by decide +kernel
theorem dN_serve_59 : decode cN_serve 59 = .ok (.aload_n 0, 1) := by decide +kernel
theorem dN_serve_60 : decode cN_serve 60 = .ok (.iload_n 1, 1) := by decide +kernel
theorem dN_serve_61 : decode cN_serve 61 = .ok (.iload 7, 2) := by decide +kernel
theorem dN_serve_63 : decode cN_serve 63 = .ok (.invokevirtual 115, 3) := by decide +kernel
theorem dN_serve_66 : decode cN_serve 66 = .ok (.ifCond .ne 19, 3) := by decide +kernel
theorem dN_serve_69 : decode cN_serve 69 = .ok (.aload_n 0, 1) := by decide +kernel
theorem dN_serve_70 : decode cN_serve 70 = .ok (.getfield 25, 3) := by decide +kernel
theorem dN_serve_73 : decode cN_serve 73 = .ok (.bipush 40, 2) := by decide +kernel
theorem dN_serve_75 : decode cN_serve 75 = .ok (.iload_n 1, 1) := by decide +kernel
theorem dN_serve_76 : decode cN_serve 76 = .ok (.imul, 1) := by decide +kernel
theorem dN_serve_77 : decode cN_serve 77 = .ok (.iload 7, 2) := by decide +kernel
theorem dN_serve_79 : decode cN_serve 79 = .ok (.iadd, 1) := by decide +kernel
theorem dN_serve_80 : decode cN_serve 80 = .ok (.iconst 1, 1) := by decide +kernel
theorem dN_serve_81 : decode cN_serve 81 = .ok (.bastore, 1) := by decide +kernel
theorem dN_serve_82 : decode cN_serve 82 = .ok (.goto 20, 3) := by decide +kernel
theorem dN_serve_85 : decode cN_serve 85 = .ok (.aload_n 0, 1) := by decide +kernel
theorem dN_serve_86 : decode cN_serve 86 = .ok (.getfield 35, 3) := by decide +kernel
theorem dN_serve_89 : decode cN_serve 89 = .ok (.bipush 40, 2) := by decide +kernel
theorem dN_serve_91 : decode cN_serve 91 = .ok (.iload_n 3, 1) := by decide +kernel
theorem dN_serve_92 : decode cN_serve 92 = .ok (.imul, 1) := by decide +kernel
theorem dN_serve_93 : decode cN_serve 93 = .ok (.iload 4, 2) := by decide +kernel
theorem dN_serve_95 : decode cN_serve 95 = .ok (.iadd, 1) := by decide +kernel
theorem dN_serve_96 : decode cN_serve 96 = .ok (.iload 7, 2) := by decide +kernel
theorem dN_serve_98 : decode cN_serve 98 = .ok (.iastore, 1) := by decide +kernel
theorem dN_serve_99 : decode cN_serve 99 = .ok (.iinc 4 1, 3) := by decide +kernel
theorem dN_serve_102 : decode cN_serve 102 = .ok (.iinc 6 1, 3) := by decide +kernel
theorem dN_serve_105 : decode cN_serve 105 = .ok (.goto (-67), 3) := by decide +kernel
theorem dN_serve_108 : decode cN_serve 108 = .ok (.aload_n 0, 1) := by decide +kernel
theorem dN_serve_109 : decode cN_serve 109 = .ok (.getfield 32, 3) := by decide +kernel
theorem dN_serve_112 : decode cN_serve 112 = .ok (.iload_n 3, 1) := by decide +kernel
theorem dN_serve_113 : decode cN_serve 113 = .ok (.iload 4, 2) := by decide +kernel
theorem dN_serve_115 : decode cN_serve 115 = .ok (.iastore, 1) := by decide +kernel
theorem dN_serve_116 : decode cN_serve 116 = .ok (.iload 5, 2) := by decide +kernel
theorem dN_serve_118 : decode cN_serve 118 = .ok (.iload 4, 2) := by decide +kernel
theorem dN_serve_120 : decode cN_serve 120 = .ok (.isub, 1) := by decide +kernel
theorem dN_serve_121 : decode cN_serve 121 = .ok (.ireturn, 1) := by decide +kernel
theorem dN_flight_0 : decode cN_flight 0 = .ok (.aload_n 0, 1) := by decide +kernel
theorem dN_flight_1 : decode cN_flight 1 = .ok (.iload_n 1, 1) := by decide +kernel
theorem dN_flight_2 : decode cN_flight 2 = .ok (.iload_n 2, 1) := by decide +kernel
theorem dN_flight_3 : decode cN_flight 3 = .ok (.invokevirtual 112, 3) := by decide +kernel
theorem dN_flight_6 : decode cN_flight 6 = .ok (.ifCond .eq 16, 3) := by decide +kernel
theorem dN_flight_9 : decode cN_flight 9 = .ok (.aload_n 0, 1) := by decide +kernel
theorem dN_flight_10 : decode cN_flight 10 = .ok (.getfield 38, 3) := by decide +kernel
theorem dN_flight_13 : decode cN_flight 13 = .ok (.iconst 3, 1) := by decide +kernel
theorem dN_flight_14 : decode cN_flight 14 = .ok (.iload_n 1, 1) := by decide +kernel
theorem dN_flight_15 : decode cN_flight 15 = .ok (.imul, 1) := by decide +kernel
theorem dN_flight_16 : decode cN_flight 16 = .ok (.iload_n 2, 1) := by decide +kernel
theorem dN_flight_17 : decode cN_flight 17 = .ok (.iadd, 1) := by decide +kernel
theorem dN_flight_18 : decode cN_flight 18 = .ok (.iaload, 1) := by decide +kernel
theorem dN_flight_19 : decode cN_flight 19 = .ok (.goto 4, 3) := by decide +kernel
theorem dN_flight_22 : decode cN_flight 22 = .ok (.iconst 0, 1) := by decide +kernel
theorem dN_flight_23 : decode cN_flight 23 = .ok (.ireturn, 1) := by decide +kernel
theorem dN_sent_0 : decode cN_sent 0 = .ok (.aload_n 0, 1) := by decide +kernel
theorem dN_sent_1 : decode cN_sent 1 = .ok (.iload_n 1, 1) := by decide +kernel
theorem dN_sent_2 : decode cN_sent 2 = .ok (.iload_n 2, 1) := by decide +kernel
theorem dN_sent_3 : decode cN_sent 3 = .ok (.invokevirtual 112, 3) := by decide +kernel
theorem dN_sent_6 : decode cN_sent 6 = .ok (.ifCond .ne 6, 3) := by decide +kernel
theorem dN_sent_9 : decode cN_sent 9 = .ok (.bipush (-4), 2) := by decide +kernel
theorem dN_sent_11 : decode cN_sent 11 = .ok (.ireturn, 1) := by decide +kernel
theorem dN_sent_12 : decode cN_sent 12 = .ok (.iload_n 3, 1) := by decide +kernel
theorem dN_sent_13 : decode cN_sent 13 = .ok (.aload_n 0, 1) := by decide +kernel
theorem dN_sent_14 : decode cN_sent 14 = .ok (.getfield 38, 3) := by decide +kernel
theorem dN_sent_17 : decode cN_sent 17 = .ok (.iconst 3, 1) := by decide +kernel
theorem dN_sent_18 : decode cN_sent 18 = .ok (.iload_n 1, 1) := by decide +kernel
theorem dN_sent_19 : decode cN_sent 19 = .ok (.imul, 1) := by decide +kernel
theorem dN_sent_20 : decode cN_sent 20 = .ok (.iload_n 2, 1) := by decide +kernel
theorem dN_sent_21 : decode cN_sent 21 = .ok (.iadd, 1) := by decide +kernel
theorem dN_sent_22 : decode cN_sent 22 = .ok (.iaload, 1) := by decide +kernel
theorem dN_sent_23 : decode cN_sent 23 = .ok (.invokestatic 73, 3) := by decide +kernel
theorem dN_sent_26 : decode cN_sent 26 = .ok (.ifCond .eq 8, 3) := by decide +kernel
theorem dN_sent_29 : decode cN_sent 29 = .ok (.bipush (-4), 2) := by decide +kernel
theorem dN_sent_31 : decode cN_sent 31 = .ok (.goto 18, 3) := by decide +kernel
theorem dN_sent_34 : decode cN_sent 34 = .ok (.aload_n 0, 1) := by decide +kernel
theorem dN_sent_35 : decode cN_sent 35 = .ok (.getfield 41, 3) := by decide +kernel
theorem dN_sent_38 : decode cN_sent 38 = .ok (.bipush 40, 2) := by decide +kernel
theorem dN_sent_40 : decode cN_sent 40 = .ok (.iconst 3, 1) := by decide +kernel
theorem dN_sent_41 : decode cN_sent 41 = .ok (.iload_n 1, 1) := by decide +kernel
theorem dN_sent_42 : decode cN_sent 42 = .ok (.imul, 1) := by decide +kernel
theorem dN_sent_43 : decode cN_sent 43 = .ok (.iload_n 2, 1) := by decide +kernel
theorem dN_sent_44 : decode cN_sent 44 = .ok (.iadd, 1) := by decide +kernel
theorem dN_sent_45 : decode cN_sent 45 = .ok (.imul, 1) := by decide +kernel
theorem dN_sent_46 : decode cN_sent 46 = .ok (.iload_n 3, 1) := by decide +kernel
theorem dN_sent_47 : decode cN_sent 47 = .ok (.iadd, 1) := by decide +kernel
theorem dN_sent_48 : decode cN_sent 48 = .ok (.iaload, 1) := by decide +kernel
theorem dN_sent_49 : decode cN_sent 49 = .ok (.ireturn, 1) := by decide +kernel
theorem dN_pending_0 : decode cN_pending 0 = .ok (.iload_n 1, 1) := by decide +kernel
theorem dN_pending_1 : decode cN_pending 1 = .ok (.iconst 3, 1) := by decide +kernel
theorem dN_pending_2 : decode cN_pending 2 = .ok (.invokestatic 73, 3) := by decide +kernel
theorem dN_pending_5 : decode cN_pending 5 = .ok (.ifCond .ne 11, 3) := by decide +kernel
theorem dN_pending_8 : decode cN_pending 8 = .ok (.iload_n 2, 1) := by decide +kernel
theorem dN_pending_9 : decode cN_pending 9 = .ok (.iconst 2, 1) := by decide +kernel
theorem dN_pending_10 : decode cN_pending 10 = .ok (.invokestatic 73, 3) := by decide +kernel
theorem dN_pending_13 : decode cN_pending 13 = .ok (.ifCond .eq 7, 3) := by decide +kernel
theorem dN_pending_16 : decode cN_pending 16 = .ok (.iconst (-1), 1) := by decide +kernel
theorem dN_pending_17 : decode cN_pending 17 = .ok (.goto 13, 3) := by decide +kernel
theorem dN_pending_20 : decode cN_pending 20 = .ok (.aload_n 0, 1) := by decide +kernel
theorem dN_pending_21 : decode cN_pending 21 = .ok (.getfield 32, 3) := by decide +kernel
theorem dN_pending_24 : decode cN_pending 24 = .ok (.iconst 2, 1) := by decide +kernel
theorem dN_pending_25 : decode cN_pending 25 = .ok (.iload_n 1, 1) := by decide +kernel
theorem dN_pending_26 : decode cN_pending 26 = .ok (.imul, 1) := by decide +kernel
theorem dN_pending_27 : decode cN_pending 27 = .ok (.iload_n 2, 1) := by decide +kernel
theorem dN_pending_28 : decode cN_pending 28 = .ok (.iadd, 1) := by decide +kernel
theorem dN_pending_29 : decode cN_pending 29 = .ok (.iaload, 1) := by decide +kernel
theorem dN_pending_30 : decode cN_pending 30 = .ok (.ireturn, 1) := by decide +kernel
theorem dN_lacks_0 : decode cN_lacks 0 = .ok (.iload_n 1, 1) := by decide +kernel
theorem dN_lacks_1 : decode cN_lacks 1 = .ok (.iconst 3, 1) := by decide +kernel
theorem dN_lacks_2 : decode cN_lacks 2 = .ok (.invokestatic 73, 3) := by decide +kernel
theorem dN_lacks_5 : decode cN_lacks 5 = .ok (.ifCond .ne 11, 3) := by decide +kernel
theorem dN_lacks_8 : decode cN_lacks 8 = .ok (.iload_n 2, 1) := by decide +kernel
theorem dN_lacks_9 : decode cN_lacks 9 = .ok (.iconst 2, 1) := by decide +kernel
theorem dN_lacks_10 : decode cN_lacks 10 = .ok (.invokestatic 73, 3) := by decide +kernel
theorem dN_lacks_13 : decode cN_lacks 13 = .ok (.ifCond .eq 6, 3) := by decide +kernel
theorem dN_lacks_16 : decode cN_lacks 16 = .ok (.bipush (-4), 2) := by decide +kernel
theorem dN_lacks_18 : decode cN_lacks 18 = .ok (.ireturn, 1) := by decide +kernel
theorem dN_lacks_19 : decode cN_lacks 19 = .ok (.iconst 2, 1) := by decide +kernel
theorem dN_lacks_20 : decode cN_lacks 20 = .ok (.iload_n 1, 1) := by decide +kernel
theorem dN_lacks_21 : decode cN_lacks 21 = .ok (.imul, 1) := by decide +kernel
theorem dN_lacks_22 : decode cN_lacks 22 = .ok (.iload_n 2, 1) := by decide +kernel
theorem dN_lacks_23 : decode cN_lacks 23 = .ok (.iadd, 1) := by decide +kernel
theorem dN_lacks_24 : decode cN_lacks 24 = .ok (.istore 4, 2) := by decide +kernel
theorem dN_lacks_26 : decode cN_lacks 26 = .ok (.iload_n 3, 1) := by decide +kernel
theorem dN_lacks_27 : decode cN_lacks 27 = .ok (.aload_n 0, 1) := by decide +kernel
theorem dN_lacks_28 : decode cN_lacks 28 = .ok (.getfield 32, 3) := by decide +kernel
theorem dN_lacks_31 : decode cN_lacks 31 = .ok (.iload 4, 2) := by decide +kernel
theorem dN_lacks_33 : decode cN_lacks 33 = .ok (.iaload, 1) := by decide +kernel
theorem dN_lacks_34 : decode cN_lacks 34 = .ok (.invokestatic 73, 3) := by decide +kernel
theorem dN_lacks_37 : decode cN_lacks 37 = .ok (.ifCond .eq 8, 3) := by decide +kernel
theorem dN_lacks_40 : decode cN_lacks 40 = .ok (.bipush (-4), 2) := by decide +kernel
theorem dN_lacks_42 : decode cN_lacks 42 = .ok (.goto 20, 3) := by decide +kernel
theorem dN_lacks_45 : decode cN_lacks 45 = .ok (.aload_n 0, 1) := by decide +kernel
theorem dN_lacks_46 : decode cN_lacks 46 = .ok (.iload_n 1, 1) := by decide +kernel
theorem dN_lacks_47 : decode cN_lacks 47 = .ok (.aload_n 0, 1) := by decide +kernel
theorem dN_lacks_48 : decode cN_lacks 48 = .ok (.getfield 35, 3) := by decide +kernel
theorem dN_lacks_51 : decode cN_lacks 51 = .ok (.bipush 40, 2) := by decide +kernel
theorem dN_lacks_53 : decode cN_lacks 53 = .ok (.iload 4, 2) := by decide +kernel
theorem dN_lacks_55 : decode cN_lacks 55 = .ok (.imul, 1) := by decide +kernel
theorem dN_lacks_56 : decode cN_lacks 56 = .ok (.iload_n 3, 1) := by decide +kernel
theorem dN_lacks_57 : decode cN_lacks 57 = .ok (.iadd, 1) := by decide +kernel
theorem dN_lacks_58 : decode cN_lacks 58 = .ok (.iaload, 1) := by decide +kernel
theorem dN_lacks_59 : decode cN_lacks 59 = .ok (.invokevirtual 115, 3) := by decide +kernel
theorem dN_lacks_62 : decode cN_lacks 62 = .ok (.ireturn, 1) := by decide +kernel
theorem dN_latest_0 : decode cN_latest 0 = .ok (.iload_n 1, 1) := by decide +kernel
theorem dN_latest_1 : decode cN_latest 1 = .ok (.iconst 3, 1) := by decide +kernel
theorem dN_latest_2 : decode cN_latest 2 = .ok (.invokestatic 73, 3) := by decide +kernel
theorem dN_latest_5 : decode cN_latest 5 = .ok (.ifCond .ne 12, 3) := by decide +kernel
theorem dN_latest_8 : decode cN_latest 8 = .ok (.iload_n 2, 1) := by decide +kernel
theorem dN_latest_9 : decode cN_latest 9 = .ok (.bipush 6, 2) := by decide +kernel
theorem dN_latest_11 : decode cN_latest 11 = .ok (.invokestatic 73, 3) := by decide +kernel
theorem dN_latest_14 : decode cN_latest 14 = .ok (.ifCond .eq 5, 3) := by decide +kernel
theorem dN_latest_17 : decode cN_latest 17 = .ok (.iconst (-1), 1) := by decide +kernel
theorem dN_latest_18 : decode cN_latest 18 = .ok (.ireturn, 1) := by decide +kernel
theorem dN_latest_19 : decode cN_latest 19 = .ok (.aload_n 0, 1) := by decide +kernel
theorem dN_latest_20 : decode cN_latest 20 = .ok (.iload_n 1, 1) := by decide +kernel
theorem dN_latest_21 : decode cN_latest 21 = .ok (.iload_n 2, 1) := by decide +kernel
theorem dN_latest_22 : decode cN_latest 22 = .ok (.invokevirtual 93, 3) := by decide +kernel
theorem dN_latest_25 : decode cN_latest 25 = .ok (.istore_n 3, 1) := by decide +kernel
theorem dN_latest_26 : decode cN_latest 26 = .ok (.iload_n 3, 1) := by decide +kernel
theorem dN_latest_27 : decode cN_latest 27 = .ok (.ifCond .ne 8, 3) := by decide +kernel
theorem dN_latest_30 : decode cN_latest 30 = .ok (.bipush (-4), 2) := by decide +kernel
theorem dN_latest_32 : decode cN_latest 32 = .ok (.goto 6, 3) := by decide +kernel
theorem dN_latest_35 : decode cN_latest 35 = .ok (.iload_n 3, 1) := by decide +kernel
theorem dN_latest_36 : decode cN_latest 36 = .ok (.iconst 1, 1) := by decide +kernel
theorem dN_latest_37 : decode cN_latest 37 = .ok (.isub, 1) := by decide +kernel
theorem dN_latest_38 : decode cN_latest 38 = .ok (.ireturn, 1) := by decide +kernel
theorem dN_visible_0 : decode cN_visible 0 = .ok (.iload_n 1, 1) := by decide +kernel
theorem dN_visible_1 : decode cN_visible 1 = .ok (.iconst 3, 1) := by decide +kernel
theorem dN_visible_2 : decode cN_visible 2 = .ok (.invokestatic 73, 3) := by decide +kernel
theorem dN_visible_5 : decode cN_visible 5 = .ok (.ifCond .ne 32, 3) := by decide +kernel
theorem dN_visible_8 : decode cN_visible 8 = .ok (.iload_n 2, 1) := by decide +kernel
theorem dN_visible_9 : decode cN_visible 9 = .ok (.aload_n 0, 1) := by decide +kernel
theorem dN_visible_10 : decode cN_visible 10 = .ok (.getfield 65, 3) := by decide +kernel
theorem dN_visible_13 : decode cN_visible 13 = .ok (.invokestatic 73, 3) := by decide +kernel
theorem dN_visible_16 : decode cN_visible 16 = .ok (.ifCond .ne 21, 3) := by decide +kernel
theorem dN_visible_19 : decode cN_visible 19 = .ok (.aload_n 0, 1) := by decide +kernel
theorem dN_visible_20 : decode cN_visible 20 = .ok (.getfield 25, 3) := by decide +kernel
theorem dN_visible_23 : decode cN_visible 23 = .ok (.bipush 40, 2) := by decide +kernel
theorem dN_visible_25 : decode cN_visible 25 = .ok (.iload_n 1, 1) := by decide +kernel
theorem dN_visible_26 : decode cN_visible 26 = .ok (.imul, 1) := by decide +kernel
theorem dN_visible_27 : decode cN_visible 27 = .ok (.iload_n 2, 1) := by decide +kernel
theorem dN_visible_28 : decode cN_visible 28 = .ok (.iadd, 1) := by decide +kernel
theorem dN_visible_29 : decode cN_visible 29 = .ok (.baload, 1) := by decide +kernel
theorem dN_visible_30 : decode cN_visible 30 = .ok (.ifCond .eq 7, 3) := by decide +kernel
theorem dN_visible_33 : decode cN_visible 33 = .ok (.iconst 1, 1) := by decide +kernel
theorem dN_visible_34 : decode cN_visible 34 = .ok (.goto 4, 3) := by decide +kernel
theorem dN_visible_37 : decode cN_visible 37 = .ok (.iconst 0, 1) := by decide +kernel
theorem dN_visible_38 : decode cN_visible 38 = .ok (.ireturn, 1) := by decide +kernel
theorem dN_clock_0 : decode cN_clock 0 = .ok (.iload_n 1, 1) := by decide +kernel
theorem dN_clock_1 : decode cN_clock 1 = .ok (.iconst 3, 1) := by decide +kernel
theorem dN_clock_2 : decode cN_clock 2 = .ok (.invokestatic 73, 3) := by decide +kernel
theorem dN_clock_5 : decode cN_clock 5 = .ok (.ifCond .ne 11, 3) := by decide +kernel
theorem dN_clock_8 : decode cN_clock 8 = .ok (.iload_n 2, 1) := by decide +kernel
theorem dN_clock_9 : decode cN_clock 9 = .ok (.iconst 2, 1) := by decide +kernel
theorem dN_clock_10 : decode cN_clock 10 = .ok (.invokestatic 73, 3) := by decide +kernel
theorem dN_clock_13 : decode cN_clock 13 = .ok (.ifCond .eq 7, 3) := by decide +kernel
theorem dN_clock_16 : decode cN_clock 16 = .ok (.iconst (-1), 1) := by decide +kernel
theorem dN_clock_17 : decode cN_clock 17 = .ok (.goto 13, 3) := by decide +kernel
theorem dN_clock_20 : decode cN_clock 20 = .ok (.aload_n 0, 1) := by decide +kernel
theorem dN_clock_21 : decode cN_clock 21 = .ok (.getfield 29, 3) := by decide +kernel
theorem dN_clock_24 : decode cN_clock 24 = .ok (.iconst 2, 1) := by decide +kernel
theorem dN_clock_25 : decode cN_clock 25 = .ok (.iload_n 1, 1) := by decide +kernel
theorem dN_clock_26 : decode cN_clock 26 = .ok (.imul, 1) := by decide +kernel
theorem dN_clock_27 : decode cN_clock 27 = .ok (.iload_n 2, 1) := by decide +kernel
theorem dN_clock_28 : decode cN_clock 28 = .ok (.iadd, 1) := by decide +kernel
theorem dN_clock_29 : decode cN_clock 29 = .ok (.iaload, 1) := by decide +kernel
theorem dN_clock_30 : decode cN_clock 30 = .ok (.ireturn, 1) := by decide +kernel
theorem dN_context_0 : decode cN_context 0 = .ok (.iload_n 1, 1) := by decide +kernel
theorem dN_context_1 : decode cN_context 1 = .ok (.bipush 6, 2) := by decide +kernel
theorem dN_context_3 : decode cN_context 3 = .ok (.invokestatic 73, 3) := by decide +kernel
theorem dN_context_6 : decode cN_context 6 = .ok (.ifCond .ne 12, 3) := by decide +kernel
theorem dN_context_9 : decode cN_context 9 = .ok (.iload_n 2, 1) := by decide +kernel
theorem dN_context_10 : decode cN_context 10 = .ok (.bipush 6, 2) := by decide +kernel
theorem dN_context_12 : decode cN_context 12 = .ok (.invokestatic 73, 3) := by decide +kernel
theorem dN_context_15 : decode cN_context 15 = .ok (.ifCond .eq 5, 3) := by decide +kernel
theorem dN_context_18 : decode cN_context 18 = .ok (.iconst (-1), 1) := by decide +kernel
theorem dN_context_19 : decode cN_context 19 = .ok (.ireturn, 1) := by decide +kernel
theorem dN_context_20 : decode cN_context 20 = .ok (.aload_n 0, 1) := by decide +kernel
theorem dN_context_21 : decode cN_context 21 = .ok (.getfield 44, 3) := by decide +kernel
theorem dN_context_24 : decode cN_context 24 = .ok (.bipush 6, 2) := by decide +kernel
theorem dN_context_26 : decode cN_context 26 = .ok (.iload_n 1, 1) := by decide +kernel
theorem dN_context_27 : decode cN_context 27 = .ok (.imul, 1) := by decide +kernel
theorem dN_context_28 : decode cN_context 28 = .ok (.iload_n 2, 1) := by decide +kernel
theorem dN_context_29 : decode cN_context 29 = .ok (.iadd, 1) := by decide +kernel
theorem dN_context_30 : decode cN_context 30 = .ok (.iaload, 1) := by decide +kernel
theorem dN_context_31 : decode cN_context 31 = .ok (.ifCond .ne 8, 3) := by decide +kernel
theorem dN_context_34 : decode cN_context 34 = .ok (.bipush (-4), 2) := by decide +kernel
theorem dN_context_36 : decode cN_context 36 = .ok (.goto 16, 3) := by decide +kernel
theorem dN_context_39 : decode cN_context 39 = .ok (.aload_n 0, 1) := by decide +kernel
theorem dN_context_40 : decode cN_context 40 = .ok (.getfield 44, 3) := by decide +kernel
theorem dN_context_43 : decode cN_context 43 = .ok (.bipush 6, 2) := by decide +kernel
theorem dN_context_45 : decode cN_context 45 = .ok (.iload_n 1, 1) := by decide +kernel
theorem dN_context_46 : decode cN_context 46 = .ok (.imul, 1) := by decide +kernel
theorem dN_context_47 : decode cN_context 47 = .ok (.iload_n 2, 1) := by decide +kernel
theorem dN_context_48 : decode cN_context 48 = .ok (.iadd, 1) := by decide +kernel
theorem dN_context_49 : decode cN_context 49 = .ok (.iaload, 1) := by decide +kernel
theorem dN_context_50 : decode cN_context 50 = .ok (.iconst 1, 1) := by decide +kernel
theorem dN_context_51 : decode cN_context 51 = .ok (.isub, 1) := by decide +kernel
theorem dN_context_52 : decode cN_context 52 = .ok (.ireturn, 1) := by decide +kernel
theorem dN_nearest_0 : decode cN_nearest 0 = .ok (.iload_n 1, 1) := by decide +kernel
theorem dN_nearest_1 : decode cN_nearest 1 = .ok (.bipush 6, 2) := by decide +kernel
theorem dN_nearest_3 : decode cN_nearest 3 = .ok (.invokestatic 73, 3) := by decide +kernel
theorem dN_nearest_6 : decode cN_nearest 6 = .ok (.ifCond .eq 7, 3) := by decide +kernel
theorem dN_nearest_9 : decode cN_nearest 9 = .ok (.iconst (-1), 1) := by decide +kernel
theorem dN_nearest_10 : decode cN_nearest 10 = .ok (.goto 8, 3) := by decide +kernel
theorem dN_nearest_13 : decode cN_nearest 13 = .ok (.aload_n 0, 1) := by decide +kernel
theorem dN_nearest_14 : decode cN_nearest 14 = .ok (.iload_n 1, 1) := by decide +kernel
theorem dN_nearest_15 : decode cN_nearest 15 = .ok (.invokevirtual 81, 3) := by decide +kernel
theorem dN_nearest_18 : decode cN_nearest 18 = .ok (.ireturn, 1) := by decide +kernel
theorem dN_about_0 : decode cN_about 0 = .ok (.iload_n 1, 1) := by decide +kernel
theorem dN_about_1 : decode cN_about 1 = .ok (.aload_n 0, 1) := by decide +kernel
theorem dN_about_2 : decode cN_about 2 = .ok (.getfield 65, 3) := by decide +kernel
theorem dN_about_5 : decode cN_about 5 = .ok (.invokestatic 73, 3) := by decide +kernel
theorem dN_about_8 : decode cN_about 8 = .ok (.ifCond .eq 5, 3) := by decide +kernel
theorem dN_about_11 : decode cN_about 11 = .ok (.iconst 0, 1) := by decide +kernel
theorem dN_about_12 : decode cN_about 12 = .ok (.ireturn, 1) := by decide +kernel
theorem dN_about_13 : decode cN_about 13 = .ok (.iload_n 2, 1) := by decide +kernel
theorem dN_about_14 : decode cN_about 14 = .ok (.tableswitch 58 0 3 #[30, 37, 44, 51], 30) := by decide +kernel
theorem dN_about_44 : decode cN_about 44 = .ok (.aload_n 0, 1) := by decide +kernel
theorem dN_about_45 : decode cN_about 45 = .ok (.getfield 7, 3) := by decide +kernel
theorem dN_about_48 : decode cN_about 48 = .ok (.iload_n 1, 1) := by decide +kernel
theorem dN_about_49 : decode cN_about 49 = .ok (.iaload, 1) := by decide +kernel
theorem dN_about_50 : decode cN_about 50 = .ok (.ireturn, 1) := by decide +kernel
theorem dN_about_51 : decode cN_about 51 = .ok (.aload_n 0, 1) := by decide +kernel
theorem dN_about_52 : decode cN_about 52 = .ok (.getfield 16, 3) := by decide +kernel
theorem dN_about_55 : decode cN_about 55 = .ok (.iload_n 1, 1) := by decide +kernel
theorem dN_about_56 : decode cN_about 56 = .ok (.iaload, 1) := by decide +kernel
theorem dN_about_57 : decode cN_about 57 = .ok (.ireturn, 1) := by decide +kernel
theorem dN_about_58 : decode cN_about 58 = .ok (.aload_n 0, 1) := by decide +kernel
theorem dN_about_59 : decode cN_about 59 = .ok (.getfield 13, 3) := by decide +kernel
theorem dN_about_62 : decode cN_about 62 = .ok (.iload_n 1, 1) := by decide +kernel
theorem dN_about_63 : decode cN_about 63 = .ok (.iaload, 1) := by decide +kernel
theorem dN_about_64 : decode cN_about 64 = .ok (.ireturn, 1) := by decide +kernel
theorem dN_about_65 : decode cN_about 65 = .ok (.aload_n 0, 1) := by decide +kernel
theorem dN_about_66 : decode cN_about 66 = .ok (.getfield 22, 3) := by decide +kernel
theorem dN_about_69 : decode cN_about 69 = .ok (.iload_n 1, 1) := by decide +kernel
theorem dN_about_70 : decode cN_about 70 = .ok (.iaload, 1) := by decide +kernel
theorem dN_about_71 : decode cN_about 71 = .ok (.ireturn, 1) := by decide +kernel
theorem dN_about_72 : decode cN_about 72 = .ok (.iconst 0, 1) := by decide +kernel
theorem dN_about_73 : decode cN_about 73 = .ok (.ireturn, 1) := by decide +kernel
theorem dN_dependency_0 : decode cN_dependency 0 = .ok (.iload_n 1, 1) := by decide +kernel
theorem dN_dependency_1 : decode cN_dependency 1 = .ok (.aload_n 0, 1) := by decide +kernel
theorem dN_dependency_2 : decode cN_dependency 2 = .ok (.getfield 65, 3) := by decide +kernel
theorem dN_dependency_5 : decode cN_dependency 5 = .ok (.invokestatic 73, 3) := by decide +kernel
theorem dN_dependency_8 : decode cN_dependency 8 = .ok (.ifCond .ne 12, 3) := by decide +kernel
theorem dN_dependency_11 : decode cN_dependency 11 = .ok (.iload_n 2, 1) := by decide +kernel
theorem dN_dependency_12 : decode cN_dependency 12 = .ok (.bipush 6, 2) := by decide +kernel
theorem dN_dependency_14 : decode cN_dependency 14 = .ok (.invokestatic 73, 3) := by decide +kernel
theorem dN_dependency_17 : decode cN_dependency 17 = .ok (.ifCond .eq 5, 3) := by decide +kernel
theorem dN_dependency_20 : decode cN_dependency 20 = .ok (.iconst (-1), 1) := by decide +kernel
theorem dN_dependency_21 : decode cN_dependency 21 = .ok (.ireturn, 1) := by decide +kernel
theorem dN_dependency_22 : decode cN_dependency 22 = .ok (.aload_n 0, 1) := by decide +kernel
theorem dN_dependency_23 : decode cN_dependency 23 = .ok (.getfield 19, 3) := by decide +kernel
theorem dN_dependency_26 : decode cN_dependency 26 = .ok (.bipush 6, 2) := by decide +kernel
theorem dN_dependency_28 : decode cN_dependency 28 = .ok (.iload_n 1, 1) := by decide +kernel
theorem dN_dependency_29 : decode cN_dependency 29 = .ok (.imul, 1) := by decide +kernel
theorem dN_dependency_30 : decode cN_dependency 30 = .ok (.iload_n 2, 1) := by decide +kernel
theorem dN_dependency_31 : decode cN_dependency 31 = .ok (.iadd, 1) := by decide +kernel
theorem dN_dependency_32 : decode cN_dependency 32 = .ok (.iaload, 1) := by decide +kernel
theorem dN_dependency_33 : decode cN_dependency 33 = .ok (.ifCond .ne 8, 3) := by decide +kernel
theorem dN_dependency_36 : decode cN_dependency 36 = .ok (.bipush (-4), 2) := by decide +kernel
theorem dN_dependency_38 : decode cN_dependency 38 = .ok (.goto 16, 3) := by decide +kernel
theorem dN_dependency_41 : decode cN_dependency 41 = .ok (.aload_n 0, 1) := by decide +kernel
theorem dN_dependency_42 : decode cN_dependency 42 = .ok (.getfield 19, 3) := by decide +kernel
theorem dN_dependency_45 : decode cN_dependency 45 = .ok (.bipush 6, 2) := by decide +kernel
theorem dN_dependency_47 : decode cN_dependency 47 = .ok (.iload_n 1, 1) := by decide +kernel
theorem dN_dependency_48 : decode cN_dependency 48 = .ok (.imul, 1) := by decide +kernel
theorem dN_dependency_49 : decode cN_dependency 49 = .ok (.iload_n 2, 1) := by decide +kernel
theorem dN_dependency_50 : decode cN_dependency 50 = .ok (.iadd, 1) := by decide +kernel
theorem dN_dependency_51 : decode cN_dependency 51 = .ok (.iaload, 1) := by decide +kernel
theorem dN_dependency_52 : decode cN_dependency 52 = .ok (.iconst 1, 1) := by decide +kernel
theorem dN_dependency_53 : decode cN_dependency 53 = .ok (.isub, 1) := by decide +kernel
theorem dN_dependency_54 : decode cN_dependency 54 = .ok (.ireturn, 1) := by decide +kernel
