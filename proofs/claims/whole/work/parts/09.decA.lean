theorem dC_init_0 : decode cC_init 0 = .ok (.aload_n 0, 1) := by decide +kernel
theorem dC_init_1 : decode cC_init 1 = .ok (.invokespecial 3, 3) := by decide +kernel
theorem dC_init_4 : decode cC_init 4 = .ok (.aload_n 0, 1) := by decide +kernel
theorem dC_init_5 : decode cC_init 5 = .ok (.bipush 40, 2) := by decide +kernel
theorem dC_init_7 : decode cC_init 7 = .ok (.newarray .boolean, 2) := by decide +kernel
theorem dC_init_9 : decode cC_init 9 = .ok (.putfield 9, 3) := by decide +kernel
theorem dC_init_12 : decode cC_init 12 = .ok (.aload_n 0, 1) := by decide +kernel
theorem dC_init_13 : decode cC_init 13 = .ok (.invokestatic 15, 3) := by decide +kernel
theorem dC_init_16 : decode cC_init 16 = .ok (.putfield 19, 3) := by decide +kernel
theorem dC_init_19 : decode cC_init 19 = .ok (.aload_n 0, 1) := by decide +kernel
theorem dC_init_20 : decode cC_init 20 = .ok (.iconst 2, 1) := by decide +kernel
theorem dC_init_21 : decode cC_init 21 = .ok (.newarray .int, 2) := by decide +kernel
theorem dC_init_23 : decode cC_init 23 = .ok (.putfield 23, 3) := by decide +kernel
theorem dC_init_26 : decode cC_init 26 = .ok (.aload_n 0, 1) := by decide +kernel
theorem dC_init_27 : decode cC_init 27 = .ok (.iconst 2, 1) := by decide +kernel
theorem dC_init_28 : decode cC_init 28 = .ok (.anewarray 26, 3) := by decide +kernel
theorem dC_init_31 : decode cC_init 31 = .ok (.putfield 28, 3) := by decide +kernel
theorem dC_init_34 : decode cC_init 34 = .ok (.iconst 0, 1) := by decide +kernel
theorem dC_init_35 : decode cC_init 35 = .ok (.istore_n 1, 1) := by decide +kernel
theorem dC_init_36 : decode cC_init 36 = .ok (.iload_n 1, 1) := by decide +kernel
theorem dC_init_37 : decode cC_init 37 = .ok (.iconst 2, 1) := by decide +kernel
theorem dC_init_38 : decode cC_init 38 = .ok (.if_icmp .ge 22, 3) := by decide +kernel
theorem dC_init_41 : decode cC_init 41 = .ok (.aload_n 0, 1) := by decide +kernel
theorem dC_init_42 : decode cC_init 42 = .ok (.getfield 28, 3) := by decide +kernel
theorem dC_init_45 : decode cC_init 45 = .ok (.iload_n 1, 1) := by decide +kernel
theorem dC_init_46 : decode cC_init 46 = .ok (.new 26, 3) := by decide +kernel
theorem dC_init_49 : decode cC_init 49 = .ok (.dup, 1) := by decide +kernel
theorem dC_init_50 : decode cC_init 50 = .ok (.invokespecial 32, 3) := by decide +kernel
theorem dC_init_53 : decode cC_init 53 = .ok (.aastore, 1) := by decide +kernel
theorem dC_init_54 : decode cC_init 54 = .ok (.iinc 1 1, 3) := by decide +kernel
theorem dC_init_57 : decode cC_init 57 = .ok (.goto (-21), 3) := by decide +kernel
theorem dC_init_60 : decode cC_init 60 = .ok (.return_, 1) := by decide +kernel
theorem dK_init_0 : decode cK_init 0 = .ok (.aload_n 0, 1) := by decide +kernel
theorem dK_init_1 : decode cK_init 1 = .ok (.invokespecial 3, 3) := by decide +kernel
theorem dK_init_4 : decode cK_init 4 = .ok (.aload_n 0, 1) := by decide +kernel
theorem dK_init_5 : decode cK_init 5 = .ok (.invokestatic 9, 3) := by decide +kernel
theorem dK_init_8 : decode cK_init 8 = .ok (.putfield 13, 3) := by decide +kernel
theorem dK_init_11 : decode cK_init 11 = .ok (.aload_n 0, 1) := by decide +kernel
theorem dK_init_12 : decode cK_init 12 = .ok (.invokestatic 9, 3) := by decide +kernel
theorem dK_init_15 : decode cK_init 15 = .ok (.putfield 19, 3) := by decide +kernel
theorem dK_init_18 : decode cK_init 18 = .ok (.aload_n 0, 1) := by decide +kernel
theorem dK_init_19 : decode cK_init 19 = .ok (.invokestatic 9, 3) := by decide +kernel
theorem dK_init_22 : decode cK_init 22 = .ok (.putfield 22, 3) := by decide +kernel
theorem dK_init_25 : decode cK_init 25 = .ok (.aload_n 0, 1) := by decide +kernel
theorem dK_init_26 : decode cK_init 26 = .ok (.iload_n 1, 1) := by decide +kernel
theorem dK_init_27 : decode cK_init 27 = .ok (.putfield 25, 3) := by decide +kernel
theorem dK_init_30 : decode cK_init 30 = .ok (.return_, 1) := by decide +kernel
theorem dK_isOpen_0 : decode cK_isOpen 0 = .ok (.aload_n 0, 1) := by decide +kernel
theorem dK_isOpen_1 : decode cK_isOpen 1 = .ok (.getfield 29, 3) := by decide +kernel
theorem dK_isOpen_4 : decode cK_isOpen 4 = .ok (.ifCond .eq 7, 3) := by decide +kernel
theorem dK_isOpen_7 : decode cK_isOpen 7 = .ok (.iconst 1, 1) := by decide +kernel
theorem dK_isOpen_8 : decode cK_isOpen 8 = .ok (.goto 4, 3) := by decide +kernel
theorem dK_isOpen_11 : decode cK_isOpen 11 = .ok (.iconst 0, 1) := by decide +kernel
theorem dK_isOpen_12 : decode cK_isOpen 12 = .ok (.ireturn, 1) := by decide +kernel
theorem dK_open_0 : decode cK_open 0 = .ok (.aload_n 0, 1) := by decide +kernel
theorem dK_open_1 : decode cK_open 1 = .ok (.iload_n 1, 1) := by decide +kernel
theorem dK_open_2 : decode cK_open 2 = .ok (.putfield 32, 3) := by decide +kernel
theorem dK_open_5 : decode cK_open 5 = .ok (.aload_n 0, 1) := by decide +kernel
theorem dK_open_6 : decode cK_open 6 = .ok (.iload_n 1, 1) := by decide +kernel
theorem dK_open_7 : decode cK_open 7 = .ok (.putfield 29, 3) := by decide +kernel
theorem dK_open_10 : decode cK_open 10 = .ok (.aload_n 0, 1) := by decide +kernel
theorem dK_open_11 : decode cK_open 11 = .ok (.iconst 1, 1) := by decide +kernel
theorem dK_open_12 : decode cK_open 12 = .ok (.putfield 35, 3) := by decide +kernel
theorem dK_open_15 : decode cK_open 15 = .ok (.aload_n 0, 1) := by decide +kernel
theorem dK_open_16 : decode cK_open 16 = .ok (.getfield 19, 3) := by decide +kernel
theorem dK_open_19 : decode cK_open 19 = .ok (.bipush (-4), 2) := by decide +kernel
theorem dK_open_21 : decode cK_open 21 = .ok (.invokestatic 38, 3) := by decide +kernel
theorem dK_open_24 : decode cK_open 24 = .ok (.return_, 1) := by decide +kernel
theorem dR_init_0 : decode cR_init 0 = .ok (.aload_n 0, 1) := by decide +kernel
theorem dR_init_1 : decode cR_init 1 = .ok (.invokespecial 3, 3) := by decide +kernel
theorem dR_init_4 : decode cR_init 4 = .ok (.aload_n 0, 1) := by decide +kernel
theorem dR_init_5 : decode cR_init 5 = .ok (.bipush 40, 2) := by decide +kernel
theorem dR_init_7 : decode cR_init 7 = .ok (.newarray .int, 2) := by decide +kernel
theorem dR_init_9 : decode cR_init 9 = .ok (.putfield 9, 3) := by decide +kernel
theorem dR_init_12 : decode cR_init 12 = .ok (.return_, 1) := by decide +kernel
theorem dR_at_0 : decode cR_at 0 = .ok (.iload_n 1, 1) := by decide +kernel
theorem dR_at_1 : decode cR_at 1 = .ok (.ifCond .lt 20, 3) := by decide +kernel
theorem dR_at_4 : decode cR_at 4 = .ok (.iload_n 1, 1) := by decide +kernel
theorem dR_at_5 : decode cR_at 5 = .ok (.aload_n 0, 1) := by decide +kernel
theorem dR_at_6 : decode cR_at 6 = .ok (.getfield 15, 3) := by decide +kernel
theorem dR_at_9 : decode cR_at 9 = .ok (.if_icmp .ge 12, 3) := by decide +kernel
theorem dR_at_12 : decode cR_at 12 = .ok (.aload_n 0, 1) := by decide +kernel
theorem dR_at_13 : decode cR_at 13 = .ok (.getfield 9, 3) := by decide +kernel
theorem dR_at_16 : decode cR_at 16 = .ok (.iload_n 1, 1) := by decide +kernel
theorem dR_at_17 : decode cR_at 17 = .ok (.iaload, 1) := by decide +kernel
theorem dR_at_18 : decode cR_at 18 = .ok (.goto 5, 3) := by decide +kernel
theorem dR_at_21 : decode cR_at 21 = .ok (.bipush (-4), 2) := by decide +kernel
theorem dR_at_23 : decode cR_at 23 = .ok (.ireturn, 1) := by decide +kernel
theorem dR_append_0 : decode cR_append 0 = .ok (.aload_n 0, 1) := by decide +kernel
theorem dR_append_1 : decode cR_append 1 = .ok (.getfield 15, 3) := by decide +kernel
theorem dR_append_4 : decode cR_append 4 = .ok (.bipush 40, 2) := by decide +kernel
theorem dR_append_6 : decode cR_append 6 = .ok (.if_icmp .ge 23, 3) := by decide +kernel
theorem dR_append_9 : decode cR_append 9 = .ok (.aload_n 0, 1) := by decide +kernel
theorem dR_append_10 : decode cR_append 10 = .ok (.getfield 9, 3) := by decide +kernel
theorem dR_append_13 : decode cR_append 13 = .ok (.aload_n 0, 1) := by decide +kernel
theorem dR_append_14 : decode cR_append 14 = .ok (.getfield 15, 3) := by decide +kernel
theorem dR_append_17 : decode cR_append 17 = .ok (.iload_n 1, 1) := by decide +kernel
theorem dR_append_18 : decode cR_append 18 = .ok (.iastore, 1) := by decide +kernel
theorem dR_append_19 : decode cR_append 19 = .ok (.aload_n 0, 1) := by decide +kernel
theorem dR_append_20 : decode cR_append 20 = .ok (.dup, 1) := by decide +kernel
theorem dR_append_21 : decode cR_append 21 = .ok (.getfield 15, 3) := by decide +kernel
theorem dR_append_24 : decode cR_append 24 = .ok (.iconst 1, 1) := by decide +kernel
theorem dR_append_25 : decode cR_append 25 = .ok (.iadd, 1) := by decide +kernel
theorem dR_append_26 : decode cR_append 26 = .ok (.putfield 15, 3) := by decide +kernel
theorem dR_append_29 : decode cR_append 29 = .ok (.return_, 1) := by decide +kernel
theorem dR_removeAt_0 : decode cR_removeAt 0 = .ok (.iload_n 1, 1) := by decide +kernel
theorem dR_removeAt_1 : decode cR_removeAt 1 = .ok (.ifCond .lt 44, 3) := by decide +kernel
theorem dR_removeAt_4 : decode cR_removeAt 4 = .ok (.iload_n 1, 1) := by decide +kernel
theorem dR_removeAt_5 : decode cR_removeAt 5 = .ok (.aload_n 0, 1) := by decide +kernel
theorem dR_removeAt_6 : decode cR_removeAt 6 = .ok (.getfield 15, 3) := by decide +kernel
theorem dR_removeAt_9 : decode cR_removeAt 9 = .ok (.if_icmp .ge 36, 3) := by decide +kernel
theorem dR_removeAt_12 : decode cR_removeAt 12 = .ok (.aload_n 0, 1) := by decide +kernel
theorem dR_removeAt_13 : decode cR_removeAt 13 = .ok (.getfield 9, 3) := by decide +kernel
theorem dR_removeAt_16 : decode cR_removeAt 16 = .ok (.iload_n 1, 1) := by decide +kernel
theorem dR_removeAt_17 : decode cR_removeAt 17 = .ok (.iconst 1, 1) := by decide +kernel
theorem dR_removeAt_18 : decode cR_removeAt 18 = .ok (.iadd, 1) := by decide +kernel
theorem dR_removeAt_19 : decode cR_removeAt 19 = .ok (.aload_n 0, 1) := by decide +kernel
theorem dR_removeAt_20 : decode cR_removeAt 20 = .ok (.getfield 9, 3) := by decide +kernel
theorem dR_removeAt_23 : decode cR_removeAt 23 = .ok (.iload_n 1, 1) := by decide +kernel
theorem dR_removeAt_24 : decode cR_removeAt 24 = .ok (.aload_n 0, 1) := by decide +kernel
theorem dR_removeAt_25 : decode cR_removeAt 25 = .ok (.getfield 15, 3) := by decide +kernel
theorem dR_removeAt_28 : decode cR_removeAt 28 = .ok (.iload_n 1, 1) := by decide +kernel
theorem dR_removeAt_29 : decode cR_removeAt 29 = .ok (.isub, 1) := by decide +kernel
theorem dR_removeAt_30 : decode cR_removeAt 30 = .ok (.iconst 1, 1) := by decide +kernel
theorem dR_removeAt_31 : decode cR_removeAt 31 = .ok (.isub, 1) := by decide +kernel
theorem dR_removeAt_32 : decode cR_removeAt 32 = .ok (.invokestatic 19, 3) := by decide +kernel
theorem dR_removeAt_35 : decode cR_removeAt 35 = .ok (.aload_n 0, 1) := by decide +kernel
theorem dR_removeAt_36 : decode cR_removeAt 36 = .ok (.dup, 1) := by decide +kernel
theorem dR_removeAt_37 : decode cR_removeAt 37 = .ok (.getfield 15, 3) := by decide +kernel
theorem dR_removeAt_40 : decode cR_removeAt 40 = .ok (.iconst 1, 1) := by decide +kernel
theorem dR_removeAt_41 : decode cR_removeAt 41 = .ok (.isub, 1) := by decide +kernel
theorem dR_removeAt_42 : decode cR_removeAt 42 = .ok (.putfield 15, 3) := by decide +kernel
theorem dR_removeAt_45 : decode cR_removeAt 45 = .ok (.return_, 1) := by decide +kernel
theorem dW_init_0 : decode cW_init 0 = .ok (.aload_n 0, 1) := by decide +kernel
theorem dW_init_1 : decode cW_init 1 = .ok (.invokespecial 3, 3) := by decide +kernel
theorem dW_init_4 : decode cW_init 4 = .ok (.aload_n 0, 1) := by decide +kernel
theorem dW_init_5 : decode cW_init 5 = .ok (.invokestatic 9, 3) := by decide +kernel
theorem dW_init_8 : decode cW_init 8 = .ok (.putfield 13, 3) := by decide +kernel
theorem dW_init_11 : decode cW_init 11 = .ok (.return_, 1) := by decide +kernel
theorem dW_fill_0 : decode cW_fill 0 = .ok (.aload_n 0, 1) := by decide +kernel
theorem dW_fill_1 : decode cW_fill 1 = .ok (.iload_n 1, 1) := by decide +kernel
theorem dW_fill_2 : decode cW_fill 2 = .ok (.putfield 19, 3) := by decide +kernel
theorem dW_fill_5 : decode cW_fill 5 = .ok (.aload_n 0, 1) := by decide +kernel
theorem dW_fill_6 : decode cW_fill 6 = .ok (.iload_n 2, 1) := by decide +kernel
theorem dW_fill_7 : decode cW_fill 7 = .ok (.putfield 23, 3) := by decide +kernel
theorem dW_fill_10 : decode cW_fill 10 = .ok (.aload_n 0, 1) := by decide +kernel
theorem dW_fill_11 : decode cW_fill 11 = .ok (.iload_n 3, 1) := by decide +kernel
theorem dW_fill_12 : decode cW_fill 12 = .ok (.putfield 26, 3) := by decide +kernel
theorem dW_fill_15 : decode cW_fill 15 = .ok (.aload_n 0, 1) := by decide +kernel
theorem dW_fill_16 : decode cW_fill 16 = .ok (.iconst 4, 1) := by decide +kernel
theorem dW_fill_17 : decode cW_fill 17 = .ok (.iload_n 3, 1) := by decide +kernel
theorem dW_fill_18 : decode cW_fill 18 = .ok (.imul, 1) := by decide +kernel
theorem dW_fill_19 : decode cW_fill 19 = .ok (.iload 4, 2) := by decide +kernel
theorem dW_fill_21 : decode cW_fill 21 = .ok (.iadd, 1) := by decide +kernel
theorem dW_fill_22 : decode cW_fill 22 = .ok (.putfield 29, 3) := by decide +kernel
theorem dW_fill_25 : decode cW_fill 25 = .ok (.return_, 1) := by decide +kernel
theorem dW_dependOn_0 : decode cW_dependOn 0 = .ok (.aload_n 1, 1) := by decide +kernel
theorem dW_dependOn_1 : decode cW_dependOn 1 = .ok (.iconst 0, 1) := by decide +kernel
theorem dW_dependOn_2 : decode cW_dependOn 2 = .ok (.aload_n 0, 1) := by decide +kernel
theorem dW_dependOn_3 : decode cW_dependOn 3 = .ok (.getfield 13, 3) := by decide +kernel
theorem dW_dependOn_6 : decode cW_dependOn 6 = .ok (.iconst 0, 1) := by decide +kernel
theorem dW_dependOn_7 : decode cW_dependOn 7 = .ok (.bipush 6, 2) := by decide +kernel
theorem dW_dependOn_9 : decode cW_dependOn 9 = .ok (.invokestatic 32, 3) := by decide +kernel
theorem dW_dependOn_12 : decode cW_dependOn 12 = .ok (.aload_n 0, 1) := by decide +kernel
theorem dW_dependOn_13 : decode cW_dependOn 13 = .ok (.iload_n 2, 1) := by decide +kernel
theorem dW_dependOn_14 : decode cW_dependOn 14 = .ok (.putfield 38, 3) := by decide +kernel
theorem dW_dependOn_17 : decode cW_dependOn 17 = .ok (.return_, 1) := by decide +kernel
theorem dS_init_0 : decode cS_init 0 = .ok (.aload_n 0, 1) := by decide +kernel
theorem dS_init_1 : decode cS_init 1 = .ok (.invokespecial 1, 3) := by decide +kernel
theorem dS_init_4 : decode cS_init 4 = .ok (.aload_n 0, 1) := by decide +kernel
theorem dS_init_5 : decode cS_init 5 = .ok (.bipush 40, 2) := by decide +kernel
theorem dS_init_7 : decode cS_init 7 = .ok (.anewarray 9, 3) := by decide +kernel
theorem dS_init_10 : decode cS_init 10 = .ok (.putfield 11, 3) := by decide +kernel
theorem dS_init_13 : decode cS_init 13 = .ok (.aload_n 0, 1) := by decide +kernel
theorem dS_init_14 : decode cS_init 14 = .ok (.iconst 3, 1) := by decide +kernel
theorem dS_init_15 : decode cS_init 15 = .ok (.anewarray 15, 3) := by decide +kernel
theorem dS_init_18 : decode cS_init 18 = .ok (.putfield 17, 3) := by decide +kernel
theorem dS_init_21 : decode cS_init 21 = .ok (.aload_n 0, 1) := by decide +kernel
theorem dS_init_22 : decode cS_init 22 = .ok (.bipush 6, 2) := by decide +kernel
theorem dS_init_24 : decode cS_init 24 = .ok (.anewarray 21, 3) := by decide +kernel
theorem dS_init_27 : decode cS_init 27 = .ok (.putfield 23, 3) := by decide +kernel
theorem dS_init_30 : decode cS_init 30 = .ok (.aload_n 0, 1) := by decide +kernel
theorem dS_init_31 : decode cS_init 31 = .ok (.bipush 9, 2) := by decide +kernel
theorem dS_init_33 : decode cS_init 33 = .ok (.anewarray 27, 3) := by decide +kernel
theorem dS_init_36 : decode cS_init 36 = .ok (.putfield 29, 3) := by decide +kernel
theorem dS_init_39 : decode cS_init 39 = .ok (.iconst 0, 1) := by decide +kernel
theorem dS_init_40 : decode cS_init 40 = .ok (.istore_n 1, 1) := by decide +kernel
theorem dS_init_41 : decode cS_init 41 = .ok (.iload_n 1, 1) := by decide +kernel
theorem dS_init_42 : decode cS_init 42 = .ok (.bipush 40, 2) := by decide +kernel
theorem dS_init_44 : decode cS_init 44 = .ok (.if_icmp .ge 22, 3) := by decide +kernel
theorem dS_init_47 : decode cS_init 47 = .ok (.aload_n 0, 1) := by decide +kernel
theorem dS_init_48 : decode cS_init 48 = .ok (.getfield 11, 3) := by decide +kernel
theorem dS_init_51 : decode cS_init 51 = .ok (.iload_n 1, 1) := by decide +kernel
theorem dS_init_52 : decode cS_init 52 = .ok (.new 9, 3) := by decide +kernel
theorem dS_init_55 : decode cS_init 55 = .ok (.dup, 1) := by decide +kernel
theorem dS_init_56 : decode cS_init 56 = .ok (.invokespecial 33, 3) := by decide +kernel
theorem dS_init_59 : decode cS_init 59 = .ok (.aastore, 1) := by decide +kernel
theorem dS_init_60 : decode cS_init 60 = .ok (.iinc 1 1, 3) := by decide +kernel
theorem dS_init_63 : decode cS_init 63 = .ok (.goto (-22), 3) := by decide +kernel
theorem dS_init_66 : decode cS_init 66 = .ok (.iconst 0, 1) := by decide +kernel
theorem dS_init_67 : decode cS_init 67 = .ok (.istore_n 1, 1) := by decide +kernel
theorem dS_init_68 : decode cS_init 68 = .ok (.iload_n 1, 1) := by decide +kernel
theorem dS_init_69 : decode cS_init 69 = .ok (.iconst 3, 1) := by decide +kernel
theorem dS_init_70 : decode cS_init 70 = .ok (.if_icmp .ge 22, 3) := by decide +kernel
theorem dS_init_73 : decode cS_init 73 = .ok (.aload_n 0, 1) := by decide +kernel
theorem dS_init_74 : decode cS_init 74 = .ok (.getfield 17, 3) := by decide +kernel
theorem dS_init_77 : decode cS_init 77 = .ok (.iload_n 1, 1) := by decide +kernel
theorem dS_init_78 : decode cS_init 78 = .ok (.new 15, 3) := by decide +kernel
theorem dS_init_81 : decode cS_init 81 = .ok (.dup, 1) := by decide +kernel
theorem dS_init_82 : decode cS_init 82 = .ok (.invokespecial 34, 3) := by decide +kernel
theorem dS_init_85 : decode cS_init 85 = .ok (.aastore, 1) := by decide +kernel
theorem dS_init_86 : decode cS_init 86 = .ok (.iinc 1 1, 3) := by decide +kernel
theorem dS_init_89 : decode cS_init 89 = .ok (.goto (-21), 3) := by decide +kernel
theorem dS_init_92 : decode cS_init 92 = .ok (.iconst 0, 1) := by decide +kernel
theorem dS_init_93 : decode cS_init 93 = .ok (.istore_n 1, 1) := by decide +kernel
theorem dS_init_94 : decode cS_init 94 = .ok (.iload_n 1, 1) := by decide +kernel
theorem dS_init_95 : decode cS_init 95 = .ok (.bipush 6, 2) := by decide +kernel
theorem dS_init_97 : decode cS_init 97 = .ok (.if_icmp .ge 25, 3) := by decide +kernel
theorem dS_init_100 : decode cS_init 100 = .ok (.aload_n 0, 1) := by decide +kernel
theorem dS_init_101 : decode cS_init 101 = .ok (.getfield 23, 3) := by decide +kernel
theorem dS_init_104 : decode cS_init 104 = .ok (.iload_n 1, 1) := by decide +kernel
theorem dS_init_105 : decode cS_init 105 = .ok (.new 21, 3) := by decide +kernel
theorem dS_init_108 : decode cS_init 108 = .ok (.dup, 1) := by decide +kernel
theorem dS_init_109 : decode cS_init 109 = .ok (.iload_n 1, 1) := by decide +kernel
theorem dS_init_110 : decode cS_init 110 = .ok (.iconst 3, 1) := by decide +kernel
theorem dS_init_111 : decode cS_init 111 = .ok (.irem, 1) := by decide +kernel
theorem dS_init_112 : decode cS_init 112 = .ok (.invokespecial 35, 3) := by decide +kernel
theorem dS_init_115 : decode cS_init 115 = .ok (.aastore, 1) := by decide +kernel
theorem dS_init_116 : decode cS_init 116 = .ok (.iinc 1 1, 3) := by decide +kernel
theorem dS_init_119 : decode cS_init 119 = .ok (.goto (-25), 3) := by decide +kernel
theorem dS_init_122 : decode cS_init 122 = .ok (.iconst 0, 1) := by decide +kernel
theorem dS_init_123 : decode cS_init 123 = .ok (.istore_n 1, 1) := by decide +kernel
theorem dS_init_124 : decode cS_init 124 = .ok (.iload_n 1, 1) := by decide +kernel
theorem dS_init_125 : decode cS_init 125 = .ok (.bipush 9, 2) := by decide +kernel
theorem dS_init_127 : decode cS_init 127 = .ok (.if_icmp .ge 22, 3) := by decide +kernel
theorem dS_init_130 : decode cS_init 130 = .ok (.aload_n 0, 1) := by decide +kernel
theorem dS_init_131 : decode cS_init 131 = .ok (.getfield 29, 3) := by decide +kernel
theorem dS_init_134 : decode cS_init 134 = .ok (.iload_n 1, 1) := by decide +kernel
theorem dS_init_135 : decode cS_init 135 = .ok (.new 27, 3) := by decide +kernel
theorem dS_init_138 : decode cS_init 138 = .ok (.dup, 1) := by decide +kernel
theorem dS_init_139 : decode cS_init 139 = .ok (.invokespecial 38, 3) := by decide +kernel
theorem dS_init_142 : decode cS_init 142 = .ok (.aastore, 1) := by decide +kernel
theorem dS_init_143 : decode cS_init 143 = .ok (.iinc 1 1, 3) := by decide +kernel
theorem dS_init_146 : decode cS_init 146 = .ok (.goto (-22), 3) := by decide +kernel
theorem dS_init_149 : decode cS_init 149 = .ok (.return_, 1) := by decide +kernel
theorem dS_put_0 : decode cS_put 0 = .ok (.iload_n 1, 1) := by decide +kernel
theorem dS_put_1 : decode cS_put 1 = .ok (.invokestatic 39, 3) := by decide +kernel
theorem dS_put_4 : decode cS_put 4 = .ok (.ifCond .eq 10, 3) := by decide +kernel
theorem dS_put_7 : decode cS_put 7 = .ok (.iload_n 2, 1) := by decide +kernel
theorem dS_put_8 : decode cS_put 8 = .ok (.invokestatic 43, 3) := by decide +kernel
theorem dS_put_11 : decode cS_put 11 = .ok (.ifCond .ne 5, 3) := by decide +kernel
theorem dS_put_14 : decode cS_put 14 = .ok (.iconst (-1), 1) := by decide +kernel
theorem dS_put_15 : decode cS_put 15 = .ok (.ireturn, 1) := by decide +kernel
theorem dS_put_16 : decode cS_put 16 = .ok (.aload_n 0, 1) := by decide +kernel
theorem dS_put_17 : decode cS_put 17 = .ok (.getfield 23, 3) := by decide +kernel
theorem dS_put_20 : decode cS_put 20 = .ok (.iload_n 1, 1) := by decide +kernel
theorem dS_put_21 : decode cS_put 21 = .ok (.aaload, 1) := by decide +kernel
theorem dS_put_22 : decode cS_put 22 = .ok (.astore 4, 2) := by decide +kernel
theorem dS_put_24 : decode cS_put 24 = .ok (.aload 4, 2) := by decide +kernel
theorem dS_put_26 : decode cS_put 26 = .ok (.invokevirtual 46, 3) := by decide +kernel
theorem dS_put_29 : decode cS_put 29 = .ok (.ifCond .eq 6, 3) := by decide +kernel
theorem dS_put_32 : decode cS_put 32 = .ok (.bipush (-2), 2) := by decide +kernel
theorem dS_put_34 : decode cS_put 34 = .ok (.ireturn, 1) := by decide +kernel
theorem dS_put_35 : decode cS_put 35 = .ok (.aload_n 0, 1) := by decide +kernel
theorem dS_put_36 : decode cS_put 36 = .ok (.getfield 50, 3) := by decide +kernel
theorem dS_put_39 : decode cS_put 39 = .ok (.bipush 40, 2) := by decide +kernel
theorem dS_put_41 : decode cS_put 41 = .ok (.if_icmp .lt 6, 3) := by decide +kernel
theorem dS_put_44 : decode cS_put 44 = .ok (.bipush (-3), 2) := by decide +kernel
theorem dS_put_46 : decode cS_put 46 = .ok (.ireturn, 1) := by decide +kernel
theorem dS_put_47 : decode cS_put 47 = .ok (.aload_n 0, 1) := by decide +kernel
theorem dS_put_48 : decode cS_put 48 = .ok (.aload 4, 2) := by decide +kernel
theorem dS_put_50 : decode cS_put 50 = .ok (.iload_n 2, 1) := by decide +kernel
theorem dS_put_51 : decode cS_put 51 = .ok (.iconst 2, 1) := by decide +kernel
theorem dS_put_52 : decode cS_put 52 = .ok (.irem, 1) := by decide +kernel
theorem dS_put_53 : decode cS_put 53 = .ok (.invokevirtual 54, 3) := by decide +kernel
theorem dS_put_56 : decode cS_put 56 = .ok (.istore 5, 2) := by decide +kernel
theorem dS_put_58 : decode cS_put 58 = .ok (.aload_n 0, 1) := by decide +kernel
theorem dS_put_59 : decode cS_put 59 = .ok (.getfield 50, 3) := by decide +kernel
theorem dS_put_62 : decode cS_put 62 = .ok (.istore 6, 2) := by decide +kernel
theorem dS_put_64 : decode cS_put 64 = .ok (.aload_n 0, 1) := by decide +kernel
theorem dS_put_65 : decode cS_put 65 = .ok (.getfield 11, 3) := by decide +kernel
theorem dS_put_68 : decode cS_put 68 = .ok (.iload 6, 2) := by decide +kernel
theorem dS_put_70 : decode cS_put 70 = .ok (.aaload, 1) := by decide +kernel
theorem dS_put_71 : decode cS_put 71 = .ok (.iload_n 2, 1) := by decide +kernel
theorem dS_put_72 : decode cS_put 72 = .ok (.iload_n 3, 1) := by decide +kernel
theorem dS_put_73 : decode cS_put 73 = .ok (.iload 5, 2) := by decide +kernel
theorem dS_put_75 : decode cS_put 75 = .ok (.aload 4, 2) := by decide +kernel
theorem dS_put_77 : decode cS_put 77 = .ok (.getfield 58, 3) := by decide +kernel
theorem dS_put_80 : decode cS_put 80 = .ok (.invokevirtual 61, 3) := by decide +kernel
theorem dS_put_83 : decode cS_put 83 = .ok (.aload_n 0, 1) := by decide +kernel
theorem dS_put_84 : decode cS_put 84 = .ok (.getfield 11, 3) := by decide +kernel
theorem dS_put_87 : decode cS_put 87 = .ok (.iload 6, 2) := by decide +kernel
theorem dS_put_89 : decode cS_put 89 = .ok (.aaload, 1) := by decide +kernel
theorem dS_put_90 : decode cS_put 90 = .ok (.aload 4, 2) := by decide +kernel
theorem dS_put_92 : decode cS_put 92 = .ok (.getfield 65, 3) := by decide +kernel
theorem dS_put_95 : decode cS_put 95 = .ok (.aload_n 0, 1) := by decide +kernel
theorem dS_put_96 : decode cS_put 96 = .ok (.aload 4, 2) := by decide +kernel
theorem dS_put_98 : decode cS_put 98 = .ok (.getfield 65, 3) := by decide +kernel
theorem dS_put_101 : decode cS_put 101 = .ok (.invokevirtual 69, 3) := by decide +kernel
theorem dS_put_104 : decode cS_put 104 = .ok (.invokevirtual 73, 3) := by decide +kernel
theorem dS_put_107 : decode cS_put 107 = .ok (.aload_n 0, 1) := by decide +kernel
theorem dS_put_108 : decode cS_put 108 = .ok (.dup, 1) := by decide +kernel
theorem dS_put_109 : decode cS_put 109 = .ok (.getfield 50, 3) := by decide +kernel
theorem dS_put_112 : decode cS_put 112 = .ok (.iconst 1, 1) := by decide +kernel
theorem dS_put_113 : decode cS_put 113 = .ok (.iadd, 1) := by decide +kernel
theorem dS_put_114 : decode cS_put 114 = .ok (.putfield 50, 3) := by decide +kernel
theorem dS_put_117 : decode cS_put 117 = .ok (.aload_n 0, 1) := by decide +kernel
theorem dS_put_118 : decode cS_put 118 = .ok (.aload 4, 2) := by decide +kernel
theorem dS_put_120 : decode cS_put 120 = .ok (.getfield 58, 3) := by decide +kernel
theorem dS_put_123 : decode cS_put 123 = .ok (.iload 6, 2) := by decide +kernel
theorem dS_put_125 : decode cS_put 125 = .ok (.invokevirtual 77, 3) := by decide +kernel
theorem dS_put_128 : decode cS_put 128 = .ok (.aload_n 0, 1) := by decide +kernel
theorem dS_put_129 : decode cS_put 129 = .ok (.aload 4, 2) := by decide +kernel
theorem dS_put_131 : decode cS_put 131 = .ok (.getfield 58, 3) := by decide +kernel
theorem dS_put_134 : decode cS_put 134 = .ok (.iload 6, 2) := by decide +kernel
theorem dS_put_136 : decode cS_put 136 = .ok (.invokevirtual 81, 3) := by decide +kernel
theorem dS_put_139 : decode cS_put 139 = .ok (.aload_n 0, 1) := by decide +kernel
theorem dS_put_140 : decode cS_put 140 = .ok (.aload 4, 2) := by decide +kernel
theorem dS_put_142 : decode cS_put 142 = .ok (.iload 6, 2) := by decide +kernel
theorem dS_put_144 : decode cS_put 144 = .ok (.invokevirtual 84, 3) := by decide +kernel
theorem dS_put_147 : decode cS_put 147 = .ok (.iload 6, 2) := by decide +kernel
theorem dS_put_149 : decode cS_put 149 = .ok (.ireturn, 1) := by decide +kernel
theorem dS_get_0 : decode cS_get 0 = .ok (.iload_n 1, 1) := by decide +kernel
theorem dS_get_1 : decode cS_get 1 = .ok (.invokestatic 39, 3) := by decide +kernel
theorem dS_get_4 : decode cS_get 4 = .ok (.ifCond .eq 10, 3) := by decide +kernel
theorem dS_get_7 : decode cS_get 7 = .ok (.iload_n 2, 1) := by decide +kernel
theorem dS_get_8 : decode cS_get 8 = .ok (.invokestatic 43, 3) := by decide +kernel
theorem dS_get_11 : decode cS_get 11 = .ok (.ifCond .ne 5, 3) := by decide +kernel
theorem dS_get_14 : decode cS_get 14 = .ok (.iconst (-1), 1) := by decide +kernel
theorem dS_get_15 : decode cS_get 15 = .ok (.ireturn, 1) := by decide +kernel
theorem dS_get_16 : decode cS_get 16 = .ok (.aload_n 0, 1) := by decide +kernel
theorem dS_get_17 : decode cS_get 17 = .ok (.getfield 23, 3) := by decide +kernel
theorem dS_get_20 : decode cS_get 20 = .ok (.iload_n 1, 1) := by decide +kernel
theorem dS_get_21 : decode cS_get 21 = .ok (.aaload, 1) := by decide +kernel
theorem dS_get_22 : decode cS_get 22 = .ok (.astore_n 3, 1) := by decide +kernel
theorem dS_get_23 : decode cS_get 23 = .ok (.aload_n 3, 1) := by decide +kernel
theorem dS_get_24 : decode cS_get 24 = .ok (.invokevirtual 46, 3) := by decide +kernel
theorem dS_get_27 : decode cS_get 27 = .ok (.ifCond .eq 6, 3) := by decide +kernel
theorem dS_get_30 : decode cS_get 30 = .ok (.bipush (-2), 2) := by decide +kernel
theorem dS_get_32 : decode cS_get 32 = .ok (.ireturn, 1) := by decide +kernel
theorem dS_get_33 : decode cS_get 33 = .ok (.aload_n 0, 1) := by decide +kernel
theorem dS_get_34 : decode cS_get 34 = .ok (.getfield 17, 3) := by decide +kernel
theorem dS_get_37 : decode cS_get 37 = .ok (.aload_n 3, 1) := by decide +kernel
theorem dS_get_38 : decode cS_get 38 = .ok (.getfield 58, 3) := by decide +kernel
theorem dS_get_41 : decode cS_get 41 = .ok (.aaload, 1) := by decide +kernel
theorem dS_get_42 : decode cS_get 42 = .ok (.getfield 88, 3) := by decide +kernel
theorem dS_get_45 : decode cS_get 45 = .ok (.iload_n 2, 1) := by decide +kernel
theorem dS_get_46 : decode cS_get 46 = .ok (.iaload, 1) := by decide +kernel
theorem dS_get_47 : decode cS_get 47 = .ok (.istore 4, 2) := by decide +kernel
theorem dS_get_49 : decode cS_get 49 = .ok (.aload_n 0, 1) := by decide +kernel
theorem dS_get_50 : decode cS_get 50 = .ok (.aload_n 3, 1) := by decide +kernel
theorem dS_get_51 : decode cS_get 51 = .ok (.iload 4, 2) := by decide +kernel
theorem dS_get_53 : decode cS_get 53 = .ok (.invokevirtual 84, 3) := by decide +kernel
theorem dS_get_56 : decode cS_get 56 = .ok (.iload 4, 2) := by decide +kernel
theorem dS_get_58 : decode cS_get 58 = .ok (.ireturn, 1) := by decide +kernel
theorem dS_begin_0 : decode cS_begin 0 = .ok (.iload_n 1, 1) := by decide +kernel
theorem dS_begin_1 : decode cS_begin 1 = .ok (.invokestatic 39, 3) := by decide +kernel
theorem dS_begin_4 : decode cS_begin 4 = .ok (.ifCond .eq 26, 3) := by decide +kernel
theorem dS_begin_7 : decode cS_begin 7 = .ok (.iload_n 2, 1) := by decide +kernel
theorem dS_begin_8 : decode cS_begin 8 = .ok (.iconst 1, 1) := by decide +kernel
theorem dS_begin_9 : decode cS_begin 9 = .ok (.if_icmp .lt 21, 3) := by decide +kernel
theorem dS_begin_12 : decode cS_begin 12 = .ok (.iload_n 2, 1) := by decide +kernel
theorem dS_begin_13 : decode cS_begin 13 = .ok (.bipush 63, 2) := by decide +kernel
theorem dS_begin_15 : decode cS_begin 15 = .ok (.if_icmp .gt 15, 3) := by decide +kernel
theorem dS_begin_18 : decode cS_begin 18 = .ok (.aload_n 0, 1) := by decide +kernel
theorem dS_begin_19 : decode cS_begin 19 = .ok (.getfield 23, 3) := by decide +kernel
theorem dS_begin_22 : decode cS_begin 22 = .ok (.iload_n 1, 1) := by decide +kernel
theorem dS_begin_23 : decode cS_begin 23 = .ok (.aaload, 1) := by decide +kernel
theorem dS_begin_24 : decode cS_begin 24 = .ok (.invokevirtual 46, 3) := by decide +kernel
theorem dS_begin_27 : decode cS_begin 27 = .ok (.ifCond .eq 5, 3) := by decide +kernel
theorem dS_begin_30 : decode cS_begin 30 = .ok (.iconst 0, 1) := by decide +kernel
theorem dS_begin_31 : decode cS_begin 31 = .ok (.ireturn, 1) := by decide +kernel
theorem dS_begin_32 : decode cS_begin 32 = .ok (.aload_n 0, 1) := by decide +kernel
theorem dS_begin_33 : decode cS_begin 33 = .ok (.getfield 23, 3) := by decide +kernel
theorem dS_begin_36 : decode cS_begin 36 = .ok (.iload_n 1, 1) := by decide +kernel
theorem dS_begin_37 : decode cS_begin 37 = .ok (.aaload, 1) := by decide +kernel
theorem dS_begin_38 : decode cS_begin 38 = .ok (.iload_n 2, 1) := by decide +kernel
theorem dS_begin_39 : decode cS_begin 39 = .ok (.invokevirtual 91, 3) := by decide +kernel
theorem dS_begin_42 : decode cS_begin 42 = .ok (.iconst 1, 1) := by decide +kernel
theorem dS_begin_43 : decode cS_begin 43 = .ok (.ireturn, 1) := by decide +kernel
theorem dS_read_0 : decode cS_read 0 = .ok (.iload_n 1, 1) := by decide +kernel
theorem dS_read_1 : decode cS_read 1 = .ok (.invokestatic 39, 3) := by decide +kernel
theorem dS_read_4 : decode cS_read 4 = .ok (.ifCond .ne 5, 3) := by decide +kernel
theorem dS_read_7 : decode cS_read 7 = .ok (.iconst (-1), 1) := by decide +kernel
theorem dS_read_8 : decode cS_read 8 = .ok (.ireturn, 1) := by decide +kernel
theorem dS_read_9 : decode cS_read 9 = .ok (.aload_n 0, 1) := by decide +kernel
theorem dS_read_10 : decode cS_read 10 = .ok (.getfield 23, 3) := by decide +kernel
theorem dS_read_13 : decode cS_read 13 = .ok (.iload_n 1, 1) := by decide +kernel
theorem dS_read_14 : decode cS_read 14 = .ok (.aaload, 1) := by decide +kernel
theorem dS_read_15 : decode cS_read 15 = .ok (.astore_n 2, 1) := by decide +kernel
theorem dS_read_16 : decode cS_read 16 = .ok (.aload_n 2, 1) := by decide +kernel
theorem dS_read_17 : decode cS_read 17 = .ok (.invokevirtual 46, 3) := by decide +kernel
theorem dS_read_20 : decode cS_read 20 = .ok (.ifCond .ne 6, 3) := by decide +kernel
theorem dS_read_23 : decode cS_read 23 = .ok (.bipush (-4), 2) := by decide +kernel
theorem dS_read_25 : decode cS_read 25 = .ok (.ireturn, 1) := by decide +kernel
theorem dS_read_26 : decode cS_read 26 = .ok (.aload_n 0, 1) := by decide +kernel
theorem dS_read_27 : decode cS_read 27 = .ok (.aload_n 2, 1) := by decide +kernel
theorem dS_read_28 : decode cS_read 28 = .ok (.invokevirtual 94, 3) := by decide +kernel
theorem dS_read_31 : decode cS_read 31 = .ok (.aload_n 2, 1) := by decide +kernel
theorem dS_read_32 : decode cS_read 32 = .ok (.getfield 98, 3) := by decide +kernel
theorem dS_read_35 : decode cS_read 35 = .ok (.ifCond .ne 16, 3) := by decide +kernel
theorem dS_read_38 : decode cS_read 38 = .ok (.aload_n 2, 1) := by decide +kernel
theorem dS_read_39 : decode cS_read 39 = .ok (.getfield 101, 3) := by decide +kernel
theorem dS_read_42 : decode cS_read 42 = .ok (.iconst 1, 1) := by decide +kernel
theorem dS_read_43 : decode cS_read 43 = .ok (.if_icmp .ne 8, 3) := by decide +kernel
theorem dS_read_46 : decode cS_read 46 = .ok (.aload_n 0, 1) := by decide +kernel
theorem dS_read_47 : decode cS_read 47 = .ok (.aload_n 2, 1) := by decide +kernel
theorem dS_read_48 : decode cS_read 48 = .ok (.invokevirtual 104, 3) := by decide +kernel
theorem dS_read_51 : decode cS_read 51 = .ok (.aload_n 2, 1) := by decide +kernel
theorem dS_read_52 : decode cS_read 52 = .ok (.getfield 98, 3) := by decide +kernel
theorem dS_read_55 : decode cS_read 55 = .ok (.ifCond .ne 8, 3) := by decide +kernel
theorem dS_read_58 : decode cS_read 58 = .ok (.aload_n 0, 1) := by decide +kernel
theorem dS_read_59 : decode cS_read 59 = .ok (.aload_n 2, 1) := by decide +kernel
theorem dS_read_60 : decode cS_read 60 = .ok (.invokevirtual 107, 3) := by decide +kernel
theorem dS_read_63 : decode cS_read 63 = .ok (.aload_n 2, 1) := by decide +kernel
theorem dS_read_64 : decode cS_read 64 = .ok (.getfield 98, 3) := by decide +kernel
theorem dS_read_67 : decode cS_read 67 = .ok (.invokestatic 110, 3) := by decide +kernel
theorem dS_read_70 : decode cS_read 70 = .ok (.ireturn, 1) := by decide +kernel
theorem dS_got_0 : decode cS_got 0 = .ok (.iload_n 1, 1) := by decide +kernel
theorem dS_got_1 : decode cS_got 1 = .ok (.invokestatic 39, 3) := by decide +kernel
theorem dS_got_4 : decode cS_got 4 = .ok (.ifCond .eq 24, 3) := by decide +kernel
theorem dS_got_7 : decode cS_got 7 = .ok (.iload_n 2, 1) := by decide +kernel
theorem dS_got_8 : decode cS_got 8 = .ok (.invokestatic 43, 3) := by decide +kernel
theorem dS_got_11 : decode cS_got 11 = .ok (.ifCond .eq 17, 3) := by decide +kernel
theorem dS_got_14 : decode cS_got 14 = .ok (.aload_n 0, 1) := by decide +kernel
theorem dS_got_15 : decode cS_got 15 = .ok (.getfield 23, 3) := by decide +kernel
theorem dS_got_18 : decode cS_got 18 = .ok (.iload_n 1, 1) := by decide +kernel
theorem dS_got_19 : decode cS_got 19 = .ok (.aaload, 1) := by decide +kernel
theorem dS_got_20 : decode cS_got 20 = .ok (.getfield 116, 3) := by decide +kernel
theorem dS_got_23 : decode cS_got 23 = .ok (.iload_n 2, 1) := by decide +kernel
theorem dS_got_24 : decode cS_got 24 = .ok (.iaload, 1) := by decide +kernel
theorem dS_got_25 : decode cS_got 25 = .ok (.goto 4, 3) := by decide +kernel
theorem dS_got_28 : decode cS_got 28 = .ok (.iconst (-1), 1) := by decide +kernel
theorem dS_got_29 : decode cS_got 29 = .ok (.ireturn, 1) := by decide +kernel
theorem dS_rounds_0 : decode cS_rounds 0 = .ok (.iload_n 1, 1) := by decide +kernel
theorem dS_rounds_1 : decode cS_rounds 1 = .ok (.invokestatic 39, 3) := by decide +kernel
theorem dS_rounds_4 : decode cS_rounds 4 = .ok (.ifCond .eq 15, 3) := by decide +kernel
theorem dS_rounds_7 : decode cS_rounds 7 = .ok (.aload_n 0, 1) := by decide +kernel
theorem dS_rounds_8 : decode cS_rounds 8 = .ok (.getfield 23, 3) := by decide +kernel
theorem dS_rounds_11 : decode cS_rounds 11 = .ok (.iload_n 1, 1) := by decide +kernel
theorem dS_rounds_12 : decode cS_rounds 12 = .ok (.aaload, 1) := by decide +kernel
theorem dS_rounds_13 : decode cS_rounds 13 = .ok (.getfield 101, 3) := by decide +kernel
theorem dS_rounds_16 : decode cS_rounds 16 = .ok (.goto 4, 3) := by decide +kernel
theorem dS_rounds_19 : decode cS_rounds 19 = .ok (.iconst (-1), 1) := by decide +kernel
theorem dS_rounds_20 : decode cS_rounds 20 = .ok (.ireturn, 1) := by decide +kernel
theorem dS_deliver_0 : decode cS_deliver 0 = .ok (.aload_n 0, 1) := by decide +kernel
theorem dS_deliver_1 : decode cS_deliver 1 = .ok (.iload_n 1, 1) := by decide +kernel
theorem dS_deliver_2 : decode cS_deliver 2 = .ok (.iload_n 2, 1) := by decide +kernel
theorem dS_deliver_3 : decode cS_deliver 3 = .ok (.iload_n 3, 1) := by decide +kernel
theorem dS_deliver_4 : decode cS_deliver 4 = .ok (.invokevirtual 119, 3) := by decide +kernel
theorem dS_deliver_7 : decode cS_deliver 7 = .ok (.istore 4, 2) := by decide +kernel
theorem dS_deliver_9 : decode cS_deliver 9 = .ok (.aload_n 0, 1) := by decide +kernel
theorem dS_deliver_10 : decode cS_deliver 10 = .ok (.iload 4, 2) := by decide +kernel
theorem dS_deliver_12 : decode cS_deliver 12 = .ok (.invokevirtual 123, 3) := by decide +kernel
theorem dS_deliver_15 : decode cS_deliver 15 = .ok (.ifCond .ne 5, 3) := by decide +kernel
theorem dS_deliver_18 : decode cS_deliver 18 = .ok (.iconst 0, 1) := by decide +kernel
theorem dS_deliver_19 : decode cS_deliver 19 = .ok (.ireturn, 1) := by decide +kernel
theorem dS_deliver_20 : decode cS_deliver 20 = .ok (.aload_n 0, 1) := by decide +kernel
theorem dS_deliver_21 : decode cS_deliver 21 = .ok (.getfield 29, 3) := by decide +kernel
theorem dS_deliver_24 : decode cS_deliver 24 = .ok (.iload_n 1, 1) := by decide +kernel
theorem dS_deliver_25 : decode cS_deliver 25 = .ok (.iconst 3, 1) := by decide +kernel
theorem dS_deliver_26 : decode cS_deliver 26 = .ok (.imul, 1) := by decide +kernel
theorem dS_deliver_27 : decode cS_deliver 27 = .ok (.iload_n 2, 1) := by decide +kernel
theorem dS_deliver_28 : decode cS_deliver 28 = .ok (.iadd, 1) := by decide +kernel
theorem dS_deliver_29 : decode cS_deliver 29 = .ok (.aaload, 1) := by decide +kernel
theorem dS_deliver_30 : decode cS_deliver 30 = .ok (.iload_n 3, 1) := by decide +kernel
theorem dS_deliver_31 : decode cS_deliver 31 = .ok (.invokevirtual 126, 3) := by decide +kernel
theorem dS_deliver_34 : decode cS_deliver 34 = .ok (.aload_n 0, 1) := by decide +kernel
theorem dS_deliver_35 : decode cS_deliver 35 = .ok (.getfield 17, 3) := by decide +kernel
theorem dS_deliver_38 : decode cS_deliver 38 = .ok (.iload_n 2, 1) := by decide +kernel
theorem dS_deliver_39 : decode cS_deliver 39 = .ok (.aaload, 1) := by decide +kernel
theorem dS_deliver_40 : decode cS_deliver 40 = .ok (.astore 5, 2) := by decide +kernel
theorem dS_deliver_42 : decode cS_deliver 42 = .ok (.aload_n 0, 1) := by decide +kernel
theorem dS_deliver_43 : decode cS_deliver 43 = .ok (.getfield 11, 3) := by decide +kernel
theorem dS_deliver_46 : decode cS_deliver 46 = .ok (.iload 4, 2) := by decide +kernel
theorem dS_deliver_48 : decode cS_deliver 48 = .ok (.aaload, 1) := by decide +kernel
theorem dS_deliver_49 : decode cS_deliver 49 = .ok (.getfield 129, 3) := by decide +kernel
theorem dS_deliver_52 : decode cS_deliver 52 = .ok (.iconst 2, 1) := by decide +kernel
theorem dS_deliver_53 : decode cS_deliver 53 = .ok (.irem, 1) := by decide +kernel
theorem dS_deliver_54 : decode cS_deliver 54 = .ok (.istore 6, 2) := by decide +kernel
theorem dS_deliver_56 : decode cS_deliver 56 = .ok (.aload 5, 2) := by decide +kernel
theorem dS_deliver_58 : decode cS_deliver 58 = .ok (.getfield 132, 3) := by decide +kernel
theorem dS_deliver_61 : decode cS_deliver 61 = .ok (.iload 6, 2) := by decide +kernel
theorem dS_deliver_63 : decode cS_deliver 63 = .ok (.aload 5, 2) := by decide +kernel
theorem dS_deliver_65 : decode cS_deliver 65 = .ok (.getfield 132, 3) := by decide +kernel
theorem dS_deliver_68 : decode cS_deliver 68 = .ok (.iload 6, 2) := by decide +kernel
theorem dS_deliver_70 : decode cS_deliver 70 = .ok (.iaload, 1) := by decide +kernel
theorem dS_deliver_71 : decode cS_deliver 71 = .ok (.aload_n 0, 1) := by decide +kernel
theorem dS_deliver_72 : decode cS_deliver 72 = .ok (.getfield 11, 3) := by decide +kernel
theorem dS_deliver_75 : decode cS_deliver 75 = .ok (.iload 4, 2) := by decide +kernel
theorem dS_deliver_77 : decode cS_deliver 77 = .ok (.aaload, 1) := by decide +kernel
theorem dS_deliver_78 : decode cS_deliver 78 = .ok (.getfield 135, 3) := by decide +kernel
theorem dS_deliver_81 : decode cS_deliver 81 = .ok (.invokestatic 138, 3) := by decide +kernel
theorem dS_deliver_84 : decode cS_deliver 84 = .ok (.iastore, 1) := by decide +kernel
theorem dS_deliver_85 : decode cS_deliver 85 = .ok (.aload 5, 2) := by decide +kernel
theorem dS_deliver_87 : decode cS_deliver 87 = .ok (.getfield 144, 3) := by decide +kernel
theorem dS_deliver_90 : decode cS_deliver 90 = .ok (.iload 6, 2) := by decide +kernel
theorem dS_deliver_92 : decode cS_deliver 92 = .ok (.aaload, 1) := by decide +kernel
theorem dS_deliver_93 : decode cS_deliver 93 = .ok (.iload 4, 2) := by decide +kernel
theorem dS_deliver_95 : decode cS_deliver 95 = .ok (.invokevirtual 147, 3) := by decide +kernel
theorem dS_deliver_98 : decode cS_deliver 98 = .ok (.iconst 1, 1) := by decide +kernel
theorem dS_deliver_99 : decode cS_deliver 99 = .ok (.ireturn, 1) := by decide +kernel
theorem dS_serve_0 : decode cS_serve 0 = .ok (.iload_n 1, 1) := by decide +kernel
theorem dS_serve_1 : decode cS_serve 1 = .ok (.invokestatic 150, 3) := by decide +kernel
theorem dS_serve_4 : decode cS_serve 4 = .ok (.ifCond .eq 10, 3) := by decide +kernel
theorem dS_serve_7 : decode cS_serve 7 = .ok (.iload_n 2, 1) := by decide +kernel
theorem dS_serve_8 : decode cS_serve 8 = .ok (.invokestatic 153, 3) := by decide +kernel
theorem dS_serve_11 : decode cS_serve 11 = .ok (.ifCond .ne 5, 3) := by decide +kernel
theorem dS_serve_14 : decode cS_serve 14 = .ok (.iconst (-1), 1) := by decide +kernel
theorem dS_serve_15 : decode cS_serve 15 = .ok (.ireturn, 1) := by decide +kernel
theorem dS_serve_16 : decode cS_serve 16 = .ok (.aload_n 0, 1) := by decide +kernel
theorem dS_serve_17 : decode cS_serve 17 = .ok (.getfield 17, 3) := by decide +kernel
theorem dS_serve_20 : decode cS_serve 20 = .ok (.iload_n 1, 1) := by decide +kernel
theorem dS_serve_21 : decode cS_serve 21 = .ok (.aaload, 1) := by decide +kernel
theorem dS_serve_22 : decode cS_serve 22 = .ok (.getfield 144, 3) := by decide +kernel
theorem dS_serve_25 : decode cS_serve 25 = .ok (.iload_n 2, 1) := by decide +kernel
theorem dS_serve_26 : decode cS_serve 26 = .ok (.aaload, 1) := by decide +kernel
theorem dS_serve_27 : decode cS_serve 27 = .ok (.astore_n 3, 1) := by decide +kernel
theorem dS_serve_28 : decode cS_serve 28 = .ok (.aload_n 3, 1) := by decide +kernel
theorem dS_serve_29 : decode cS_serve 29 = .ok (.getfield 156, 3) := by decide +kernel
theorem dS_serve_32 : decode cS_serve 32 = .ok (.istore 4, 2) := by decide +kernel
theorem dS_serve_34 : decode cS_serve 34 = .ok (.iconst 0, 1) := by decide +kernel
theorem dS_serve_35 : decode cS_serve 35 = .ok (.istore 5, 2) := by decide +kernel
theorem dS_serve_37 : decode cS_serve 37 = .ok (.iconst 0, 1) := by decide +kernel
theorem dS_serve_38 : decode cS_serve 38 = .ok (.istore 6, 2) := by decide +kernel
theorem dS_serve_40 : decode cS_serve 40 = .ok (.iload 6, 2) := by decide +kernel
theorem dS_serve_42 : decode cS_serve 42 = .ok (.iload 4, 2) := by decide +kernel
theorem dS_serve_44 : decode cS_serve 44 = .ok (.if_icmp .ge 59, 3) := by decide +kernel
theorem dS_serve_47 : decode cS_serve 47 = .ok (.iload 6, 2) := by decide +kernel
theorem dS_serve_49 : decode cS_serve 49 = .ok (.iload 5, 2) := by decide +kernel
theorem dS_serve_51 : decode cS_serve 51 = .ok (.isub, 1) := by decide +kernel
theorem dS_serve_52 : decode cS_serve 52 = .ok (.istore 7, 2) := by decide +kernel
theorem dS_serve_54 : decode cS_serve 54 = .ok (.aload_n 3, 1) := by decide +kernel
theorem dS_serve_55 : decode cS_serve 55 = .ok (.iload 7, 2) := by decide +kernel
theorem dS_serve_57 : decode cS_serve 57 = .ok (.invokevirtual 159, 3) := by decide +kernel
theorem dS_serve_60 : decode cS_serve 60 = .ok (.istore 8, 2) := by decide +kernel
theorem dS_serve_62 : decode cS_serve 62 = .ok (.aload_n 0, 1) := by decide +kernel
theorem dS_serve_63 : decode cS_serve 63 = .ok (.iload 8, 2) := by decide +kernel
theorem dS_serve_65 : decode cS_serve 65 = .ok (.invokevirtual 123, 3) := by decide +kernel
theorem dS_serve_68 : decode cS_serve 68 = .ok (.ifCond .eq 29, 3) := by decide +kernel
theorem dS_serve_71 : decode cS_serve 71 = .ok (.aload_n 0, 1) := by decide +kernel
theorem dS_serve_72 : decode cS_serve 72 = .ok (.iload_n 1, 1) := by decide +kernel
theorem dS_serve_73 : decode cS_serve 73 = .ok (.iload 8, 2) := by decide +kernel
theorem dS_serve_75 : decode cS_serve 75 = .ok (.invokevirtual 162, 3) := by decide +kernel
theorem dS_serve_78 : decode cS_serve 78 = .ok (.ifCond .ne 19, 3) := by decide +kernel
theorem dS_serve_81 : decode cS_serve 81 = .ok (.aload_n 3, 1) := by decide +kernel
theorem dS_serve_82 : decode cS_serve 82 = .ok (.iload 7, 2) := by decide +kernel
theorem dS_serve_84 : decode cS_serve 84 = .ok (.invokevirtual 126, 3) := by decide +kernel
theorem dS_serve_87 : decode cS_serve 87 = .ok (.aload_n 0, 1) := by decide +kernel
theorem dS_serve_88 : decode cS_serve 88 = .ok (.iload_n 1, 1) := by decide +kernel
theorem dS_serve_89 : decode cS_serve 89 = .ok (.iload 8, 2) := by decide +kernel
theorem dS_serve_91 : decode cS_serve 91 = .ok (.invokevirtual 77, 3) := by decide +kernel
theorem dS_serve_94 : decode cS_serve 94 = .ok (.iinc 5 1, 3) := by decide +kernel
theorem dS_serve_97 : decode cS_serve 97 = .ok (.iinc 6 1, 3) := by decide +kernel
theorem dS_serve_100 : decode cS_serve 100 = .ok (.goto (-60), 3) := by decide +kernel
theorem dS_serve_103 : decode cS_serve 103 = .ok (.iload 5, 2) := by decide +kernel
theorem dS_serve_105 : decode cS_serve 105 = .ok (.ireturn, 1) := by decide +kernel
theorem dS_flight_0 : decode cS_flight 0 = .ok (.iload_n 1, 1) := by decide +kernel
theorem dS_flight_1 : decode cS_flight 1 = .ok (.invokestatic 150, 3) := by decide +kernel
theorem dS_flight_4 : decode cS_flight 4 = .ok (.ifCond .eq 26, 3) := by decide +kernel
theorem dS_flight_7 : decode cS_flight 7 = .ok (.iload_n 2, 1) := by decide +kernel
theorem dS_flight_8 : decode cS_flight 8 = .ok (.invokestatic 150, 3) := by decide +kernel
theorem dS_flight_11 : decode cS_flight 11 = .ok (.ifCond .eq 19, 3) := by decide +kernel
theorem dS_flight_14 : decode cS_flight 14 = .ok (.aload_n 0, 1) := by decide +kernel
theorem dS_flight_15 : decode cS_flight 15 = .ok (.getfield 29, 3) := by decide +kernel
theorem dS_flight_18 : decode cS_flight 18 = .ok (.iload_n 1, 1) := by decide +kernel
theorem dS_flight_19 : decode cS_flight 19 = .ok (.iconst 3, 1) := by decide +kernel
theorem dS_flight_20 : decode cS_flight 20 = .ok (.imul, 1) := by decide +kernel
theorem dS_flight_21 : decode cS_flight 21 = .ok (.iload_n 2, 1) := by decide +kernel
theorem dS_flight_22 : decode cS_flight 22 = .ok (.iadd, 1) := by decide +kernel
theorem dS_flight_23 : decode cS_flight 23 = .ok (.aaload, 1) := by decide +kernel
theorem dS_flight_24 : decode cS_flight 24 = .ok (.getfield 156, 3) := by decide +kernel
theorem dS_flight_27 : decode cS_flight 27 = .ok (.goto 4, 3) := by decide +kernel
theorem dS_flight_30 : decode cS_flight 30 = .ok (.iconst 0, 1) := by decide +kernel
theorem dS_flight_31 : decode cS_flight 31 = .ok (.ireturn, 1) := by decide +kernel
theorem dS_sent_0 : decode cS_sent 0 = .ok (.iload_n 1, 1) := by decide +kernel
theorem dS_sent_1 : decode cS_sent 1 = .ok (.invokestatic 150, 3) := by decide +kernel
theorem dS_sent_4 : decode cS_sent 4 = .ok (.ifCond .eq 27, 3) := by decide +kernel
theorem dS_sent_7 : decode cS_sent 7 = .ok (.iload_n 2, 1) := by decide +kernel
theorem dS_sent_8 : decode cS_sent 8 = .ok (.invokestatic 150, 3) := by decide +kernel
theorem dS_sent_11 : decode cS_sent 11 = .ok (.ifCond .eq 20, 3) := by decide +kernel
theorem dS_sent_14 : decode cS_sent 14 = .ok (.aload_n 0, 1) := by decide +kernel
theorem dS_sent_15 : decode cS_sent 15 = .ok (.getfield 29, 3) := by decide +kernel
theorem dS_sent_18 : decode cS_sent 18 = .ok (.iload_n 1, 1) := by decide +kernel
theorem dS_sent_19 : decode cS_sent 19 = .ok (.iconst 3, 1) := by decide +kernel
theorem dS_sent_20 : decode cS_sent 20 = .ok (.imul, 1) := by decide +kernel
theorem dS_sent_21 : decode cS_sent 21 = .ok (.iload_n 2, 1) := by decide +kernel
theorem dS_sent_22 : decode cS_sent 22 = .ok (.iadd, 1) := by decide +kernel
theorem dS_sent_23 : decode cS_sent 23 = .ok (.aaload, 1) := by decide +kernel
theorem dS_sent_24 : decode cS_sent 24 = .ok (.iload_n 3, 1) := by decide +kernel
theorem dS_sent_25 : decode cS_sent 25 = .ok (.invokevirtual 159, 3) := by decide +kernel
theorem dS_sent_28 : decode cS_sent 28 = .ok (.goto 5, 3) := by decide +kernel
theorem dS_sent_31 : decode cS_sent 31 = .ok (.bipush (-4), 2) := by decide +kernel
theorem dS_sent_33 : decode cS_sent 33 = .ok (.ireturn, 1) := by decide +kernel
theorem dS_pending_0 : decode cS_pending 0 = .ok (.iload_n 1, 1) := by decide +kernel
theorem dS_pending_1 : decode cS_pending 1 = .ok (.invokestatic 150, 3) := by decide +kernel
theorem dS_pending_4 : decode cS_pending 4 = .ok (.ifCond .eq 10, 3) := by decide +kernel
theorem dS_pending_7 : decode cS_pending 7 = .ok (.iload_n 2, 1) := by decide +kernel
theorem dS_pending_8 : decode cS_pending 8 = .ok (.invokestatic 153, 3) := by decide +kernel
theorem dS_pending_11 : decode cS_pending 11 = .ok (.ifCond .ne 5, 3) := by decide +kernel
theorem dS_pending_14 : decode cS_pending 14 = .ok (.iconst (-1), 1) := by decide +kernel
theorem dS_pending_15 : decode cS_pending 15 = .ok (.ireturn, 1) := by decide +kernel
theorem dS_pending_16 : decode cS_pending 16 = .ok (.aload_n 0, 1) := by decide +kernel
theorem dS_pending_17 : decode cS_pending 17 = .ok (.getfield 17, 3) := by decide +kernel
theorem dS_pending_20 : decode cS_pending 20 = .ok (.iload_n 1, 1) := by decide +kernel
theorem dS_pending_21 : decode cS_pending 21 = .ok (.aaload, 1) := by decide +kernel
theorem dS_pending_22 : decode cS_pending 22 = .ok (.getfield 144, 3) := by decide +kernel
theorem dS_pending_25 : decode cS_pending 25 = .ok (.iload_n 2, 1) := by decide +kernel
theorem dS_pending_26 : decode cS_pending 26 = .ok (.aaload, 1) := by decide +kernel
theorem dS_pending_27 : decode cS_pending 27 = .ok (.getfield 156, 3) := by decide +kernel
theorem dS_pending_30 : decode cS_pending 30 = .ok (.ireturn, 1) := by decide +kernel
theorem dS_lacks_0 : decode cS_lacks 0 = .ok (.iload_n 1, 1) := by decide +kernel
theorem dS_lacks_1 : decode cS_lacks 1 = .ok (.invokestatic 150, 3) := by decide +kernel
theorem dS_lacks_4 : decode cS_lacks 4 = .ok (.ifCond .eq 10, 3) := by decide +kernel
theorem dS_lacks_7 : decode cS_lacks 7 = .ok (.iload_n 2, 1) := by decide +kernel
theorem dS_lacks_8 : decode cS_lacks 8 = .ok (.invokestatic 153, 3) := by decide +kernel
theorem dS_lacks_11 : decode cS_lacks 11 = .ok (.ifCond .ne 6, 3) := by decide +kernel
theorem dS_lacks_14 : decode cS_lacks 14 = .ok (.bipush (-4), 2) := by decide +kernel
theorem dS_lacks_16 : decode cS_lacks 16 = .ok (.ireturn, 1) := by decide +kernel
theorem dS_lacks_17 : decode cS_lacks 17 = .ok (.aload_n 0, 1) := by decide +kernel
theorem dS_lacks_18 : decode cS_lacks 18 = .ok (.getfield 17, 3) := by decide +kernel
theorem dS_lacks_21 : decode cS_lacks 21 = .ok (.iload_n 1, 1) := by decide +kernel
theorem dS_lacks_22 : decode cS_lacks 22 = .ok (.aaload, 1) := by decide +kernel
theorem dS_lacks_23 : decode cS_lacks 23 = .ok (.getfield 144, 3) := by decide +kernel
theorem dS_lacks_26 : decode cS_lacks 26 = .ok (.iload_n 2, 1) := by decide +kernel
theorem dS_lacks_27 : decode cS_lacks 27 = .ok (.aaload, 1) := by decide +kernel
theorem dS_lacks_28 : decode cS_lacks 28 = .ok (.iload_n 3, 1) := by decide +kernel
theorem dS_lacks_29 : decode cS_lacks 29 = .ok (.invokevirtual 159, 3) := by decide +kernel
theorem dS_lacks_32 : decode cS_lacks 32 = .ok (.istore 4, 2) := by decide +kernel
theorem dS_lacks_34 : decode cS_lacks 34 = .ok (.aload_n 0, 1) := by decide +kernel
theorem dS_lacks_35 : decode cS_lacks 35 = .ok (.iload 4, 2) := by decide +kernel
theorem dS_lacks_37 : decode cS_lacks 37 = .ok (.invokevirtual 123, 3) := by decide +kernel
theorem dS_lacks_40 : decode cS_lacks 40 = .ok (.ifCond .eq 13, 3) := by decide +kernel
theorem dS_lacks_43 : decode cS_lacks 43 = .ok (.aload_n 0, 1) := by decide +kernel
theorem dS_lacks_44 : decode cS_lacks 44 = .ok (.iload_n 1, 1) := by decide +kernel
theorem dS_lacks_45 : decode cS_lacks 45 = .ok (.iload 4, 2) := by decide +kernel
theorem dS_lacks_47 : decode cS_lacks 47 = .ok (.invokevirtual 162, 3) := by decide +kernel
theorem dS_lacks_50 : decode cS_lacks 50 = .ok (.goto 5, 3) := by decide +kernel
theorem dS_lacks_53 : decode cS_lacks 53 = .ok (.bipush (-4), 2) := by decide +kernel
theorem dS_lacks_55 : decode cS_lacks 55 = .ok (.ireturn, 1) := by decide +kernel
theorem dS_latest_0 : decode cS_latest 0 = .ok (.iload_n 1, 1) := by decide +kernel
theorem dS_latest_1 : decode cS_latest 1 = .ok (.invokestatic 150, 3) := by decide +kernel
theorem dS_latest_4 : decode cS_latest 4 = .ok (.ifCond .eq 24, 3) := by decide +kernel
theorem dS_latest_7 : decode cS_latest 7 = .ok (.iload_n 2, 1) := by decide +kernel
theorem dS_latest_8 : decode cS_latest 8 = .ok (.invokestatic 43, 3) := by decide +kernel
theorem dS_latest_11 : decode cS_latest 11 = .ok (.ifCond .eq 17, 3) := by decide +kernel
theorem dS_latest_14 : decode cS_latest 14 = .ok (.aload_n 0, 1) := by decide +kernel
theorem dS_latest_15 : decode cS_latest 15 = .ok (.getfield 17, 3) := by decide +kernel
theorem dS_latest_18 : decode cS_latest 18 = .ok (.iload_n 1, 1) := by decide +kernel
theorem dS_latest_19 : decode cS_latest 19 = .ok (.aaload, 1) := by decide +kernel
theorem dS_latest_20 : decode cS_latest 20 = .ok (.getfield 88, 3) := by decide +kernel
theorem dS_latest_23 : decode cS_latest 23 = .ok (.iload_n 2, 1) := by decide +kernel
theorem dS_latest_24 : decode cS_latest 24 = .ok (.iaload, 1) := by decide +kernel
theorem dS_latest_25 : decode cS_latest 25 = .ok (.goto 4, 3) := by decide +kernel
theorem dS_latest_28 : decode cS_latest 28 = .ok (.iconst (-1), 1) := by decide +kernel
theorem dS_latest_29 : decode cS_latest 29 = .ok (.ireturn, 1) := by decide +kernel
theorem dS_visible_0 : decode cS_visible 0 = .ok (.iload_n 1, 1) := by decide +kernel
theorem dS_visible_1 : decode cS_visible 1 = .ok (.invokestatic 150, 3) := by decide +kernel
theorem dS_visible_4 : decode cS_visible 4 = .ok (.ifCond .eq 29, 3) := by decide +kernel
theorem dS_visible_7 : decode cS_visible 7 = .ok (.aload_n 0, 1) := by decide +kernel
theorem dS_visible_8 : decode cS_visible 8 = .ok (.iload_n 2, 1) := by decide +kernel
theorem dS_visible_9 : decode cS_visible 9 = .ok (.invokevirtual 123, 3) := by decide +kernel
theorem dS_visible_12 : decode cS_visible 12 = .ok (.ifCond .eq 21, 3) := by decide +kernel
theorem dS_visible_15 : decode cS_visible 15 = .ok (.aload_n 0, 1) := by decide +kernel
theorem dS_visible_16 : decode cS_visible 16 = .ok (.getfield 17, 3) := by decide +kernel
theorem dS_visible_19 : decode cS_visible 19 = .ok (.iload_n 1, 1) := by decide +kernel
theorem dS_visible_20 : decode cS_visible 20 = .ok (.aaload, 1) := by decide +kernel
theorem dS_visible_21 : decode cS_visible 21 = .ok (.getfield 165, 3) := by decide +kernel
theorem dS_visible_24 : decode cS_visible 24 = .ok (.iload_n 2, 1) := by decide +kernel
theorem dS_visible_25 : decode cS_visible 25 = .ok (.baload, 1) := by decide +kernel
theorem dS_visible_26 : decode cS_visible 26 = .ok (.ifCond .eq 7, 3) := by decide +kernel
theorem dS_visible_29 : decode cS_visible 29 = .ok (.iconst 1, 1) := by decide +kernel
theorem dS_visible_30 : decode cS_visible 30 = .ok (.goto 4, 3) := by decide +kernel
theorem dS_visible_33 : decode cS_visible 33 = .ok (.iconst 0, 1) := by decide +kernel
theorem dS_visible_34 : decode cS_visible 34 = .ok (.ireturn, 1) := by decide +kernel
theorem dS_clock_0 : decode cS_clock 0 = .ok (.iload_n 1, 1) := by decide +kernel
theorem dS_clock_1 : decode cS_clock 1 = .ok (.invokestatic 150, 3) := by decide +kernel
theorem dS_clock_4 : decode cS_clock 4 = .ok (.ifCond .eq 24, 3) := by decide +kernel
theorem dS_clock_7 : decode cS_clock 7 = .ok (.iload_n 2, 1) := by decide +kernel
theorem dS_clock_8 : decode cS_clock 8 = .ok (.invokestatic 153, 3) := by decide +kernel
theorem dS_clock_11 : decode cS_clock 11 = .ok (.ifCond .eq 17, 3) := by decide +kernel
theorem dS_clock_14 : decode cS_clock 14 = .ok (.aload_n 0, 1) := by decide +kernel
theorem dS_clock_15 : decode cS_clock 15 = .ok (.getfield 17, 3) := by decide +kernel
theorem dS_clock_18 : decode cS_clock 18 = .ok (.iload_n 1, 1) := by decide +kernel
theorem dS_clock_19 : decode cS_clock 19 = .ok (.aaload, 1) := by decide +kernel
theorem dS_clock_20 : decode cS_clock 20 = .ok (.getfield 132, 3) := by decide +kernel
theorem dS_clock_23 : decode cS_clock 23 = .ok (.iload_n 2, 1) := by decide +kernel
theorem dS_clock_24 : decode cS_clock 24 = .ok (.iaload, 1) := by decide +kernel
theorem dS_clock_25 : decode cS_clock 25 = .ok (.goto 4, 3) := by decide +kernel
theorem dS_clock_28 : decode cS_clock 28 = .ok (.iconst (-1), 1) := by decide +kernel
theorem dS_clock_29 : decode cS_clock 29 = .ok (.ireturn, 1) := by decide +kernel
theorem dS_context_0 : decode cS_context 0 = .ok (.iload_n 1, 1) := by decide +kernel
theorem dS_context_1 : decode cS_context 1 = .ok (.invokestatic 39, 3) := by decide +kernel
theorem dS_context_4 : decode cS_context 4 = .ok (.ifCond .eq 24, 3) := by decide +kernel
theorem dS_context_7 : decode cS_context 7 = .ok (.iload_n 2, 1) := by decide +kernel
theorem dS_context_8 : decode cS_context 8 = .ok (.invokestatic 43, 3) := by decide +kernel
theorem dS_context_11 : decode cS_context 11 = .ok (.ifCond .eq 17, 3) := by decide +kernel
theorem dS_context_14 : decode cS_context 14 = .ok (.aload_n 0, 1) := by decide +kernel
theorem dS_context_15 : decode cS_context 15 = .ok (.getfield 23, 3) := by decide +kernel
theorem dS_context_18 : decode cS_context 18 = .ok (.iload_n 1, 1) := by decide +kernel
theorem dS_context_19 : decode cS_context 19 = .ok (.aaload, 1) := by decide +kernel
theorem dS_context_20 : decode cS_context 20 = .ok (.getfield 65, 3) := by decide +kernel
theorem dS_context_23 : decode cS_context 23 = .ok (.iload_n 2, 1) := by decide +kernel
theorem dS_context_24 : decode cS_context 24 = .ok (.iaload, 1) := by decide +kernel
theorem dS_context_25 : decode cS_context 25 = .ok (.goto 4, 3) := by decide +kernel
theorem dS_context_28 : decode cS_context 28 = .ok (.iconst (-1), 1) := by decide +kernel
theorem dS_context_29 : decode cS_context 29 = .ok (.ireturn, 1) := by decide +kernel
theorem dS_nearest_0 : decode cS_nearest 0 = .ok (.iload_n 1, 1) := by decide +kernel
theorem dS_nearest_1 : decode cS_nearest 1 = .ok (.invokestatic 39, 3) := by decide +kernel
theorem dS_nearest_4 : decode cS_nearest 4 = .ok (.ifCond .eq 19, 3) := by decide +kernel
theorem dS_nearest_7 : decode cS_nearest 7 = .ok (.aload_n 0, 1) := by decide +kernel
theorem dS_nearest_8 : decode cS_nearest 8 = .ok (.aload_n 0, 1) := by decide +kernel
theorem dS_nearest_9 : decode cS_nearest 9 = .ok (.getfield 23, 3) := by decide +kernel
theorem dS_nearest_12 : decode cS_nearest 12 = .ok (.iload_n 1, 1) := by decide +kernel
theorem dS_nearest_13 : decode cS_nearest 13 = .ok (.aaload, 1) := by decide +kernel
theorem dS_nearest_14 : decode cS_nearest 14 = .ok (.getfield 65, 3) := by decide +kernel
theorem dS_nearest_17 : decode cS_nearest 17 = .ok (.invokevirtual 69, 3) := by decide +kernel
theorem dS_nearest_20 : decode cS_nearest 20 = .ok (.goto 4, 3) := by decide +kernel
theorem dS_nearest_23 : decode cS_nearest 23 = .ok (.iconst (-1), 1) := by decide +kernel
theorem dS_nearest_24 : decode cS_nearest 24 = .ok (.ireturn, 1) := by decide +kernel
theorem dS_about_0 : decode cS_about 0 = .ok (.aload_n 0, 1) := by decide +kernel
theorem dS_about_1 : decode cS_about 1 = .ok (.iload_n 1, 1) := by decide +kernel
theorem dS_about_2 : decode cS_about 2 = .ok (.invokevirtual 123, 3) := by decide +kernel
theorem dS_about_5 : decode cS_about 5 = .ok (.ifCond .ne 5, 3) := by decide +kernel
theorem dS_about_8 : decode cS_about 8 = .ok (.iconst 0, 1) := by decide +kernel
theorem dS_about_9 : decode cS_about 9 = .ok (.ireturn, 1) := by decide +kernel
theorem dS_about_10 : decode cS_about 10 = .ok (.iload_n 2, 1) := by decide +kernel
theorem dS_about_11 : decode cS_about 11 = .ok (.tableswitch 69 0 3 #[29, 39, 49, 59], 29) := by decide +kernel
theorem dS_about_40 : decode cS_about 40 = .ok (.aload_n 0, 1) := by decide +kernel
theorem dS_about_41 : decode cS_about 41 = .ok (.getfield 11, 3) := by decide +kernel
theorem dS_about_44 : decode cS_about 44 = .ok (.iload_n 1, 1) := by decide +kernel
theorem dS_about_45 : decode cS_about 45 = .ok (.aaload, 1) := by decide +kernel
theorem dS_about_46 : decode cS_about 46 = .ok (.getfield 129, 3) := by decide +kernel
theorem dS_about_49 : decode cS_about 49 = .ok (.ireturn, 1) := by decide +kernel
theorem dS_about_50 : decode cS_about 50 = .ok (.aload_n 0, 1) := by decide +kernel
theorem dS_about_51 : decode cS_about 51 = .ok (.getfield 11, 3) := by decide +kernel
theorem dS_about_54 : decode cS_about 54 = .ok (.iload_n 1, 1) := by decide +kernel
theorem dS_about_55 : decode cS_about 55 = .ok (.aaload, 1) := by decide +kernel
theorem dS_about_56 : decode cS_about 56 = .ok (.getfield 169, 3) := by decide +kernel
theorem dS_about_59 : decode cS_about 59 = .ok (.ireturn, 1) := by decide +kernel
theorem dS_about_60 : decode cS_about 60 = .ok (.aload_n 0, 1) := by decide +kernel
theorem dS_about_61 : decode cS_about 61 = .ok (.getfield 11, 3) := by decide +kernel
theorem dS_about_64 : decode cS_about 64 = .ok (.iload_n 1, 1) := by decide +kernel
theorem dS_about_65 : decode cS_about 65 = .ok (.aaload, 1) := by decide +kernel
theorem dS_about_66 : decode cS_about 66 = .ok (.getfield 172, 3) := by decide +kernel
theorem dS_about_69 : decode cS_about 69 = .ok (.ireturn, 1) := by decide +kernel
theorem dS_about_70 : decode cS_about 70 = .ok (.aload_n 0, 1) := by decide +kernel
theorem dS_about_71 : decode cS_about 71 = .ok (.getfield 11, 3) := by decide +kernel
theorem dS_about_74 : decode cS_about 74 = .ok (.iload_n 1, 1) := by decide +kernel
theorem dS_about_75 : decode cS_about 75 = .ok (.aaload, 1) := by decide +kernel
theorem dS_about_76 : decode cS_about 76 = .ok (.getfield 175, 3) := by decide +kernel
theorem dS_about_79 : decode cS_about 79 = .ok (.ireturn, 1) := by decide +kernel
theorem dS_about_80 : decode cS_about 80 = .ok (.iconst 0, 1) := by decide +kernel
theorem dS_about_81 : decode cS_about 81 = .ok (.ireturn, 1) := by decide +kernel
theorem dS_dependency_0 : decode cS_dependency 0 = .ok (.aload_n 0, 1) := by decide +kernel
theorem dS_dependency_1 : decode cS_dependency 1 = .ok (.iload_n 1, 1) := by decide +kernel
theorem dS_dependency_2 : decode cS_dependency 2 = .ok (.invokevirtual 123, 3) := by decide +kernel
theorem dS_dependency_5 : decode cS_dependency 5 = .ok (.ifCond .eq 24, 3) := by decide +kernel
theorem dS_dependency_8 : decode cS_dependency 8 = .ok (.iload_n 2, 1) := by decide +kernel
theorem dS_dependency_9 : decode cS_dependency 9 = .ok (.invokestatic 43, 3) := by decide +kernel
theorem dS_dependency_12 : decode cS_dependency 12 = .ok (.ifCond .eq 17, 3) := by decide +kernel
theorem dS_dependency_15 : decode cS_dependency 15 = .ok (.aload_n 0, 1) := by decide +kernel
theorem dS_dependency_16 : decode cS_dependency 16 = .ok (.getfield 11, 3) := by decide +kernel
theorem dS_dependency_19 : decode cS_dependency 19 = .ok (.iload_n 1, 1) := by decide +kernel
theorem dS_dependency_20 : decode cS_dependency 20 = .ok (.aaload, 1) := by decide +kernel
theorem dS_dependency_21 : decode cS_dependency 21 = .ok (.getfield 178, 3) := by decide +kernel
theorem dS_dependency_24 : decode cS_dependency 24 = .ok (.iload_n 2, 1) := by decide +kernel
theorem dS_dependency_25 : decode cS_dependency 25 = .ok (.iaload, 1) := by decide +kernel
theorem dS_dependency_26 : decode cS_dependency 26 = .ok (.goto 4, 3) := by decide +kernel
theorem dS_dependency_29 : decode cS_dependency 29 = .ok (.iconst (-1), 1) := by decide +kernel
theorem dS_dependency_30 : decode cS_dependency 30 = .ok (.ireturn, 1) := by decide +kernel
theorem dS_isClient_0 : decode cS_isClient 0 = .ok (.iload_n 0, 1) := by decide +kernel
theorem dS_isClient_1 : decode cS_isClient 1 = .ok (.ifCond .lt 13, 3) := by decide +kernel
theorem dS_isClient_4 : decode cS_isClient 4 = .ok (.iload_n 0, 1) := by decide +kernel
theorem dS_isClient_5 : decode cS_isClient 5 = .ok (.bipush 6, 2) := by decide +kernel
theorem dS_isClient_7 : decode cS_isClient 7 = .ok (.if_icmp .ge 7, 3) := by decide +kernel
theorem dS_isClient_10 : decode cS_isClient 10 = .ok (.iconst 1, 1) := by decide +kernel
theorem dS_isClient_11 : decode cS_isClient 11 = .ok (.goto 4, 3) := by decide +kernel
theorem dS_isClient_14 : decode cS_isClient 14 = .ok (.iconst 0, 1) := by decide +kernel
theorem dS_isClient_15 : decode cS_isClient 15 = .ok (.ireturn, 1) := by decide +kernel
theorem dS_isKey_0 : decode cS_isKey 0 = .ok (.iload_n 0, 1) := by decide +kernel
theorem dS_isKey_1 : decode cS_isKey 1 = .ok (.ifCond .lt 13, 3) := by decide +kernel
theorem dS_isKey_4 : decode cS_isKey 4 = .ok (.iload_n 0, 1) := by decide +kernel
theorem dS_isKey_5 : decode cS_isKey 5 = .ok (.bipush 6, 2) := by decide +kernel
theorem dS_isKey_7 : decode cS_isKey 7 = .ok (.if_icmp .ge 7, 3) := by decide +kernel
theorem dS_isKey_10 : decode cS_isKey 10 = .ok (.iconst 1, 1) := by decide +kernel
theorem dS_isKey_11 : decode cS_isKey 11 = .ok (.goto 4, 3) := by decide +kernel
theorem dS_isKey_14 : decode cS_isKey 14 = .ok (.iconst 0, 1) := by decide +kernel
theorem dS_isKey_15 : decode cS_isKey 15 = .ok (.ireturn, 1) := by decide +kernel
theorem dS_isCenter_0 : decode cS_isCenter 0 = .ok (.iload_n 0, 1) := by decide +kernel
theorem dS_isCenter_1 : decode cS_isCenter 1 = .ok (.ifCond .lt 12, 3) := by decide +kernel
theorem dS_isCenter_4 : decode cS_isCenter 4 = .ok (.iload_n 0, 1) := by decide +kernel
theorem dS_isCenter_5 : decode cS_isCenter 5 = .ok (.iconst 3, 1) := by decide +kernel
theorem dS_isCenter_6 : decode cS_isCenter 6 = .ok (.if_icmp .ge 7, 3) := by decide +kernel
theorem dS_isCenter_9 : decode cS_isCenter 9 = .ok (.iconst 1, 1) := by decide +kernel
theorem dS_isCenter_10 : decode cS_isCenter 10 = .ok (.goto 4, 3) := by decide +kernel
theorem dS_isCenter_13 : decode cS_isCenter 13 = .ok (.iconst 0, 1) := by decide +kernel
theorem dS_isCenter_14 : decode cS_isCenter 14 = .ok (.ireturn, 1) := by decide +kernel
theorem dS_isPartition_0 : decode cS_isPartition 0 = .ok (.iload_n 0, 1) := by decide +kernel
theorem dS_isPartition_1 : decode cS_isPartition 1 = .ok (.ifCond .lt 12, 3) := by decide +kernel
theorem dS_isPartition_4 : decode cS_isPartition 4 = .ok (.iload_n 0, 1) := by decide +kernel
theorem dS_isPartition_5 : decode cS_isPartition 5 = .ok (.iconst 2, 1) := by decide +kernel
theorem dS_isPartition_6 : decode cS_isPartition 6 = .ok (.if_icmp .ge 7, 3) := by decide +kernel
theorem dS_isPartition_9 : decode cS_isPartition 9 = .ok (.iconst 1, 1) := by decide +kernel
theorem dS_isPartition_10 : decode cS_isPartition 10 = .ok (.goto 4, 3) := by decide +kernel
theorem dS_isPartition_13 : decode cS_isPartition 13 = .ok (.iconst 0, 1) := by decide +kernel
theorem dS_isPartition_14 : decode cS_isPartition 14 = .ok (.ireturn, 1) := by decide +kernel
theorem dS_isWrite_0 : decode cS_isWrite 0 = .ok (.iload_n 1, 1) := by decide +kernel
theorem dS_isWrite_1 : decode cS_isWrite 1 = .ok (.ifCond .lt 15, 3) := by decide +kernel
theorem dS_isWrite_4 : decode cS_isWrite 4 = .ok (.iload_n 1, 1) := by decide +kernel
theorem dS_isWrite_5 : decode cS_isWrite 5 = .ok (.aload_n 0, 1) := by decide +kernel
theorem dS_isWrite_6 : decode cS_isWrite 6 = .ok (.getfield 50, 3) := by decide +kernel
theorem dS_isWrite_9 : decode cS_isWrite 9 = .ok (.if_icmp .ge 7, 3) := by decide +kernel
theorem dS_isWrite_12 : decode cS_isWrite 12 = .ok (.iconst 1, 1) := by decide +kernel
theorem dS_isWrite_13 : decode cS_isWrite 13 = .ok (.goto 4, 3) := by decide +kernel
theorem dS_isWrite_16 : decode cS_isWrite 16 = .ok (.iconst 0, 1) := by decide +kernel
theorem dS_isWrite_17 : decode cS_isWrite 17 = .ok (.ireturn, 1) := by decide +kernel
theorem dS_hasKey_0 : decode cS_hasKey 0 = .ok (.iload_n 0, 1) := by decide +kernel
theorem dS_hasKey_1 : decode cS_hasKey 1 = .ok (.iconst 1, 1) := by decide +kernel
theorem dS_hasKey_2 : decode cS_hasKey 2 = .ok (.iload_n 1, 1) := by decide +kernel
theorem dS_hasKey_3 : decode cS_hasKey 3 = .ok (.ishl, 1) := by decide +kernel
theorem dS_hasKey_4 : decode cS_hasKey 4 = .ok (.iand, 1) := by decide +kernel
theorem dS_hasKey_5 : decode cS_hasKey 5 = .ok (.ifCond .eq 7, 3) := by decide +kernel
theorem dS_hasKey_8 : decode cS_hasKey 8 = .ok (.iconst 1, 1) := by decide +kernel
theorem dS_hasKey_9 : decode cS_hasKey 9 = .ok (.goto 4, 3) := by decide +kernel
theorem dS_hasKey_12 : decode cS_hasKey 12 = .ok (.iconst 0, 1) := by decide +kernel
theorem dS_hasKey_13 : decode cS_hasKey 13 = .ok (.ireturn, 1) := by decide +kernel
theorem dS_tick_0 : decode cS_tick 0 = .ok (.aload_n 0, 1) := by decide +kernel
theorem dS_tick_1 : decode cS_tick 1 = .ok (.getfield 17, 3) := by decide +kernel
theorem dS_tick_4 : decode cS_tick 4 = .ok (.aload_n 1, 1) := by decide +kernel
theorem dS_tick_5 : decode cS_tick 5 = .ok (.getfield 58, 3) := by decide +kernel
theorem dS_tick_8 : decode cS_tick 8 = .ok (.aaload, 1) := by decide +kernel
theorem dS_tick_9 : decode cS_tick 9 = .ok (.getfield 132, 3) := by decide +kernel
theorem dS_tick_12 : decode cS_tick 12 = .ok (.astore_n 3, 1) := by decide +kernel
theorem dS_tick_13 : decode cS_tick 13 = .ok (.aload_n 3, 1) := by decide +kernel
theorem dS_tick_14 : decode cS_tick 14 = .ok (.iload_n 2, 1) := by decide +kernel
theorem dS_tick_15 : decode cS_tick 15 = .ok (.iaload, 1) := by decide +kernel
theorem dS_tick_16 : decode cS_tick 16 = .ok (.istore 4, 2) := by decide +kernel
theorem dS_tick_18 : decode cS_tick 18 = .ok (.iconst 0, 1) := by decide +kernel
theorem dS_tick_19 : decode cS_tick 19 = .ok (.istore 5, 2) := by decide +kernel
theorem dS_tick_21 : decode cS_tick 21 = .ok (.iload 5, 2) := by decide +kernel
theorem dS_tick_23 : decode cS_tick 23 = .ok (.bipush 6, 2) := by decide +kernel
theorem dS_tick_25 : decode cS_tick 25 = .ok (.if_icmp .ge 44, 3) := by decide +kernel
theorem dS_tick_28 : decode cS_tick 28 = .ok (.aload_n 1, 1) := by decide +kernel
theorem dS_tick_29 : decode cS_tick 29 = .ok (.getfield 65, 3) := by decide +kernel
theorem dS_tick_32 : decode cS_tick 32 = .ok (.iload 5, 2) := by decide +kernel
theorem dS_tick_34 : decode cS_tick 34 = .ok (.iaload, 1) := by decide +kernel
theorem dS_tick_35 : decode cS_tick 35 = .ok (.istore 6, 2) := by decide +kernel
theorem dS_tick_37 : decode cS_tick 37 = .ok (.aload_n 0, 1) := by decide +kernel
theorem dS_tick_38 : decode cS_tick 38 = .ok (.iload 6, 2) := by decide +kernel
theorem dS_tick_40 : decode cS_tick 40 = .ok (.invokevirtual 123, 3) := by decide +kernel
theorem dS_tick_43 : decode cS_tick 43 = .ok (.ifCond .eq 20, 3) := by decide +kernel
theorem dS_tick_46 : decode cS_tick 46 = .ok (.iload 4, 2) := by decide +kernel
theorem dS_tick_48 : decode cS_tick 48 = .ok (.aload_n 0, 1) := by decide +kernel
theorem dS_tick_49 : decode cS_tick 49 = .ok (.getfield 11, 3) := by decide +kernel
theorem dS_tick_52 : decode cS_tick 52 = .ok (.iload 6, 2) := by decide +kernel
theorem dS_tick_54 : decode cS_tick 54 = .ok (.aaload, 1) := by decide +kernel
theorem dS_tick_55 : decode cS_tick 55 = .ok (.getfield 135, 3) := by decide +kernel
theorem dS_tick_58 : decode cS_tick 58 = .ok (.invokestatic 138, 3) := by decide +kernel
theorem dS_tick_61 : decode cS_tick 61 = .ok (.istore 4, 2) := by decide +kernel
theorem dS_tick_63 : decode cS_tick 63 = .ok (.iinc 5 1, 3) := by decide +kernel
theorem dS_tick_66 : decode cS_tick 66 = .ok (.goto (-45), 3) := by decide +kernel
theorem dS_tick_69 : decode cS_tick 69 = .ok (.aload_n 3, 1) := by decide +kernel
theorem dS_tick_70 : decode cS_tick 70 = .ok (.iload_n 2, 1) := by decide +kernel
theorem dS_tick_71 : decode cS_tick 71 = .ok (.iload 4, 2) := by decide +kernel
theorem dS_tick_73 : decode cS_tick 73 = .ok (.iconst 1, 1) := by decide +kernel
theorem dS_tick_74 : decode cS_tick 74 = .ok (.iadd, 1) := by decide +kernel
theorem dS_tick_75 : decode cS_tick 75 = .ok (.iastore, 1) := by decide +kernel
theorem dS_tick_76 : decode cS_tick 76 = .ok (.iload 4, 2) := by decide +kernel
theorem dS_tick_78 : decode cS_tick 78 = .ok (.iconst 1, 1) := by decide +kernel
theorem dS_tick_79 : decode cS_tick 79 = .ok (.iadd, 1) := by decide +kernel
theorem dS_tick_80 : decode cS_tick 80 = .ok (.ireturn, 1) := by decide +kernel
theorem dS_show_0 : decode cS_show 0 = .ok (.aload_n 0, 1) := by decide +kernel
theorem dS_show_1 : decode cS_show 1 = .ok (.getfield 11, 3) := by decide +kernel
theorem dS_show_4 : decode cS_show 4 = .ok (.iload_n 2, 1) := by decide +kernel
theorem dS_show_5 : decode cS_show 5 = .ok (.aaload, 1) := by decide +kernel
theorem dS_show_6 : decode cS_show 6 = .ok (.getfield 129, 3) := by decide +kernel
theorem dS_show_9 : decode cS_show 9 = .ok (.istore_n 3, 1) := by decide +kernel
theorem dS_show_10 : decode cS_show 10 = .ok (.aload_n 0, 1) := by decide +kernel
theorem dS_show_11 : decode cS_show 11 = .ok (.getfield 17, 3) := by decide +kernel
theorem dS_show_14 : decode cS_show 14 = .ok (.iload_n 1, 1) := by decide +kernel
theorem dS_show_15 : decode cS_show 15 = .ok (.aaload, 1) := by decide +kernel
theorem dS_show_16 : decode cS_show 16 = .ok (.getfield 88, 3) := by decide +kernel
theorem dS_show_19 : decode cS_show 19 = .ok (.astore 4, 2) := by decide +kernel
theorem dS_show_21 : decode cS_show 21 = .ok (.aload_n 0, 1) := by decide +kernel
theorem dS_show_22 : decode cS_show 22 = .ok (.getfield 17, 3) := by decide +kernel
theorem dS_show_25 : decode cS_show 25 = .ok (.iload_n 1, 1) := by decide +kernel
theorem dS_show_26 : decode cS_show 26 = .ok (.aaload, 1) := by decide +kernel
theorem dS_show_27 : decode cS_show 27 = .ok (.getfield 165, 3) := by decide +kernel
theorem dS_show_30 : decode cS_show 30 = .ok (.iload_n 2, 1) := by decide +kernel
theorem dS_show_31 : decode cS_show 31 = .ok (.iconst 1, 1) := by decide +kernel
theorem dS_show_32 : decode cS_show 32 = .ok (.bastore, 1) := by decide +kernel
theorem dS_show_33 : decode cS_show 33 = .ok (.aload 4, 2) := by decide +kernel
theorem dS_show_35 : decode cS_show 35 = .ok (.iload_n 3, 1) := by decide +kernel
theorem dS_show_36 : decode cS_show 36 = .ok (.aload_n 0, 1) := by decide +kernel
theorem dS_show_37 : decode cS_show 37 = .ok (.aload 4, 2) := by decide +kernel
theorem dS_show_39 : decode cS_show 39 = .ok (.iload_n 3, 1) := by decide +kernel
theorem dS_show_40 : decode cS_show 40 = .ok (.iaload, 1) := by decide +kernel
theorem dS_show_41 : decode cS_show 41 = .ok (.iload_n 2, 1) := by decide +kernel
theorem dS_show_42 : decode cS_show 42 = .ok (.invokevirtual 179, 3) := by decide +kernel
theorem dS_show_45 : decode cS_show 45 = .ok (.iastore, 1) := by decide +kernel
theorem dS_show_46 : decode cS_show 46 = .ok (.return_, 1) := by decide +kernel
theorem dS_send_0 : decode cS_send 0 = .ok (.iconst 0, 1) := by decide +kernel
theorem dS_send_1 : decode cS_send 1 = .ok (.istore_n 3, 1) := by decide +kernel
theorem dS_send_2 : decode cS_send 2 = .ok (.iload_n 3, 1) := by decide +kernel
theorem dS_send_3 : decode cS_send 3 = .ok (.iconst 3, 1) := by decide +kernel
theorem dS_send_4 : decode cS_send 4 = .ok (.if_icmp .ge 28, 3) := by decide +kernel
theorem dS_send_7 : decode cS_send 7 = .ok (.iload_n 3, 1) := by decide +kernel
theorem dS_send_8 : decode cS_send 8 = .ok (.iload_n 1, 1) := by decide +kernel
theorem dS_send_9 : decode cS_send 9 = .ok (.if_icmp .eq 17, 3) := by decide +kernel
theorem dS_send_12 : decode cS_send 12 = .ok (.aload_n 0, 1) := by decide +kernel
theorem dS_send_13 : decode cS_send 13 = .ok (.getfield 29, 3) := by decide +kernel
theorem dS_send_16 : decode cS_send 16 = .ok (.iload_n 1, 1) := by decide +kernel
theorem dS_send_17 : decode cS_send 17 = .ok (.iconst 3, 1) := by decide +kernel
theorem dS_send_18 : decode cS_send 18 = .ok (.imul, 1) := by decide +kernel
theorem dS_send_19 : decode cS_send 19 = .ok (.iload_n 3, 1) := by decide +kernel
theorem dS_send_20 : decode cS_send 20 = .ok (.iadd, 1) := by decide +kernel
theorem dS_send_21 : decode cS_send 21 = .ok (.aaload, 1) := by decide +kernel
theorem dS_send_22 : decode cS_send 22 = .ok (.iload_n 2, 1) := by decide +kernel
theorem dS_send_23 : decode cS_send 23 = .ok (.invokevirtual 147, 3) := by decide +kernel
theorem dS_send_26 : decode cS_send 26 = .ok (.iinc 3 1, 3) := by decide +kernel
theorem dS_send_29 : decode cS_send 29 = .ok (.goto (-27), 3) := by decide +kernel
theorem dS_send_32 : decode cS_send 32 = .ok (.return_, 1) := by decide +kernel
theorem dS_see_0 : decode cS_see 0 = .ok (.aload_n 0, 1) := by decide +kernel
theorem dS_see_1 : decode cS_see 1 = .ok (.iload_n 2, 1) := by decide +kernel
theorem dS_see_2 : decode cS_see 2 = .ok (.invokevirtual 123, 3) := by decide +kernel
theorem dS_see_5 : decode cS_see 5 = .ok (.ifCond .ne 4, 3) := by decide +kernel
theorem dS_see_8 : decode cS_see 8 = .ok (.return_, 1) := by decide +kernel
theorem dS_see_9 : decode cS_see 9 = .ok (.aload_n 0, 1) := by decide +kernel
theorem dS_see_10 : decode cS_see 10 = .ok (.getfield 11, 3) := by decide +kernel
theorem dS_see_13 : decode cS_see 13 = .ok (.iload_n 2, 1) := by decide +kernel
theorem dS_see_14 : decode cS_see 14 = .ok (.aaload, 1) := by decide +kernel
theorem dS_see_15 : decode cS_see 15 = .ok (.astore_n 3, 1) := by decide +kernel
theorem dS_see_16 : decode cS_see 16 = .ok (.iconst 0, 1) := by decide +kernel
theorem dS_see_17 : decode cS_see 17 = .ok (.istore 4, 2) := by decide +kernel
theorem dS_see_19 : decode cS_see 19 = .ok (.iload 4, 2) := by decide +kernel
theorem dS_see_21 : decode cS_see 21 = .ok (.bipush 6, 2) := by decide +kernel
theorem dS_see_23 : decode cS_see 23 = .ok (.if_icmp .ge 34, 3) := by decide +kernel
theorem dS_see_26 : decode cS_see 26 = .ok (.aload_n 1, 1) := by decide +kernel
theorem dS_see_27 : decode cS_see 27 = .ok (.getfield 65, 3) := by decide +kernel
theorem dS_see_30 : decode cS_see 30 = .ok (.iload 4, 2) := by decide +kernel
theorem dS_see_32 : decode cS_see 32 = .ok (.aload_n 0, 1) := by decide +kernel
theorem dS_see_33 : decode cS_see 33 = .ok (.aload_n 1, 1) := by decide +kernel
theorem dS_see_34 : decode cS_see 34 = .ok (.getfield 65, 3) := by decide +kernel
theorem dS_see_37 : decode cS_see 37 = .ok (.iload 4, 2) := by decide +kernel
theorem dS_see_39 : decode cS_see 39 = .ok (.iaload, 1) := by decide +kernel
theorem dS_see_40 : decode cS_see 40 = .ok (.aload_n 3, 1) := by decide +kernel
theorem dS_see_41 : decode cS_see 41 = .ok (.getfield 178, 3) := by decide +kernel
theorem dS_see_44 : decode cS_see 44 = .ok (.iload 4, 2) := by decide +kernel
theorem dS_see_46 : decode cS_see 46 = .ok (.iaload, 1) := by decide +kernel
theorem dS_see_47 : decode cS_see 47 = .ok (.invokevirtual 179, 3) := by decide +kernel
theorem dS_see_50 : decode cS_see 50 = .ok (.iastore, 1) := by decide +kernel
theorem dS_see_51 : decode cS_see 51 = .ok (.iinc 4 1, 3) := by decide +kernel
theorem dS_see_54 : decode cS_see 54 = .ok (.goto (-35), 3) := by decide +kernel
theorem dS_see_57 : decode cS_see 57 = .ok (.aload_n 1, 1) := by decide +kernel
theorem dS_see_58 : decode cS_see 58 = .ok (.getfield 65, 3) := by decide +kernel
theorem dS_see_61 : decode cS_see 61 = .ok (.aload_n 3, 1) := by decide +kernel
theorem dS_see_62 : decode cS_see 62 = .ok (.getfield 129, 3) := by decide +kernel
theorem dS_see_65 : decode cS_see 65 = .ok (.aload_n 0, 1) := by decide +kernel
theorem dS_see_66 : decode cS_see 66 = .ok (.aload_n 1, 1) := by decide +kernel
theorem dS_see_67 : decode cS_see 67 = .ok (.getfield 65, 3) := by decide +kernel
theorem dS_see_70 : decode cS_see 70 = .ok (.aload_n 3, 1) := by decide +kernel
theorem dS_see_71 : decode cS_see 71 = .ok (.getfield 129, 3) := by decide +kernel
theorem dS_see_74 : decode cS_see 74 = .ok (.iaload, 1) := by decide +kernel
theorem dS_see_75 : decode cS_see 75 = .ok (.iload_n 2, 1) := by decide +kernel
theorem dS_see_76 : decode cS_see 76 = .ok (.invokevirtual 179, 3) := by decide +kernel
theorem dS_see_79 : decode cS_see 79 = .ok (.iastore, 1) := by decide +kernel
theorem dS_see_80 : decode cS_see 80 = .ok (.return_, 1) := by decide +kernel
theorem dS_greater_0 : decode cS_greater 0 = .ok (.aload_n 0, 1) := by decide +kernel
theorem dS_greater_1 : decode cS_greater 1 = .ok (.iload_n 1, 1) := by decide +kernel
theorem dS_greater_2 : decode cS_greater 2 = .ok (.invokevirtual 123, 3) := by decide +kernel
theorem dS_greater_5 : decode cS_greater 5 = .ok (.ifCond .ne 5, 3) := by decide +kernel
theorem dS_greater_8 : decode cS_greater 8 = .ok (.iload_n 2, 1) := by decide +kernel
theorem dS_greater_9 : decode cS_greater 9 = .ok (.ireturn, 1) := by decide +kernel
theorem dS_greater_10 : decode cS_greater 10 = .ok (.aload_n 0, 1) := by decide +kernel
theorem dS_greater_11 : decode cS_greater 11 = .ok (.iload_n 2, 1) := by decide +kernel
theorem dS_greater_12 : decode cS_greater 12 = .ok (.invokevirtual 123, 3) := by decide +kernel
theorem dS_greater_15 : decode cS_greater 15 = .ok (.ifCond .ne 5, 3) := by decide +kernel
theorem dS_greater_18 : decode cS_greater 18 = .ok (.iload_n 1, 1) := by decide +kernel
theorem dS_greater_19 : decode cS_greater 19 = .ok (.ireturn, 1) := by decide +kernel
theorem dS_greater_20 : decode cS_greater 20 = .ok (.aload_n 0, 1) := by decide +kernel
theorem dS_greater_21 : decode cS_greater 21 = .ok (.getfield 11, 3) := by decide +kernel
theorem dS_greater_24 : decode cS_greater 24 = .ok (.iload_n 2, 1) := by decide +kernel
theorem dS_greater_25 : decode cS_greater 25 = .ok (.aaload, 1) := by decide +kernel
theorem dS_greater_26 : decode cS_greater 26 = .ok (.getfield 169, 3) := by decide +kernel
theorem dS_greater_29 : decode cS_greater 29 = .ok (.aload_n 0, 1) := by decide +kernel
theorem dS_greater_30 : decode cS_greater 30 = .ok (.getfield 11, 3) := by decide +kernel
theorem dS_greater_33 : decode cS_greater 33 = .ok (.iload_n 1, 1) := by decide +kernel
theorem dS_greater_34 : decode cS_greater 34 = .ok (.aaload, 1) := by decide +kernel
theorem dS_greater_35 : decode cS_greater 35 = .ok (.getfield 169, 3) := by decide +kernel
theorem dS_greater_38 : decode cS_greater 38 = .ok (.if_icmp .le 7, 3) := by decide +kernel
theorem dS_greater_41 : decode cS_greater 41 = .ok (.iload_n 2, 1) := by decide +kernel
theorem dS_greater_42 : decode cS_greater 42 = .ok (.goto 4, 3) := by decide +kernel
theorem dS_greater_45 : decode cS_greater 45 = .ok (.iload_n 1, 1) := by decide +kernel
theorem dS_greater_46 : decode cS_greater 46 = .ok (.ireturn, 1) := by decide +kernel
theorem dS_nearestKeys_0 : decode cS_nearestKeys 0 = .ok (.iconst 0, 1) := by decide +kernel
theorem dS_nearestKeys_1 : decode cS_nearestKeys 1 = .ok (.istore_n 2, 1) := by decide +kernel
theorem dS_nearestKeys_2 : decode cS_nearestKeys 2 = .ok (.iconst 0, 1) := by decide +kernel
theorem dS_nearestKeys_3 : decode cS_nearestKeys 3 = .ok (.istore_n 3, 1) := by decide +kernel
theorem dS_nearestKeys_4 : decode cS_nearestKeys 4 = .ok (.iload_n 3, 1) := by decide +kernel
theorem dS_nearestKeys_5 : decode cS_nearestKeys 5 = .ok (.bipush 6, 2) := by decide +kernel
theorem dS_nearestKeys_7 : decode cS_nearestKeys 7 = .ok (.if_icmp .ge 34, 3) := by decide +kernel
theorem dS_nearestKeys_10 : decode cS_nearestKeys 10 = .ok (.aload_n 0, 1) := by decide +kernel
theorem dS_nearestKeys_11 : decode cS_nearestKeys 11 = .ok (.aload_n 1, 1) := by decide +kernel
theorem dS_nearestKeys_12 : decode cS_nearestKeys 12 = .ok (.iload_n 3, 1) := by decide +kernel
theorem dS_nearestKeys_13 : decode cS_nearestKeys 13 = .ok (.iaload, 1) := by decide +kernel
theorem dS_nearestKeys_14 : decode cS_nearestKeys 14 = .ok (.invokevirtual 123, 3) := by decide +kernel
theorem dS_nearestKeys_17 : decode cS_nearestKeys 17 = .ok (.ifCond .eq 18, 3) := by decide +kernel
theorem dS_nearestKeys_20 : decode cS_nearestKeys 20 = .ok (.aload_n 0, 1) := by decide +kernel
theorem dS_nearestKeys_21 : decode cS_nearestKeys 21 = .ok (.aload_n 1, 1) := by decide +kernel
theorem dS_nearestKeys_22 : decode cS_nearestKeys 22 = .ok (.iload_n 3, 1) := by decide +kernel
theorem dS_nearestKeys_23 : decode cS_nearestKeys 23 = .ok (.invokevirtual 182, 3) := by decide +kernel
theorem dS_nearestKeys_26 : decode cS_nearestKeys 26 = .ok (.ifCond .ne 9, 3) := by decide +kernel
theorem dS_nearestKeys_29 : decode cS_nearestKeys 29 = .ok (.iload_n 2, 1) := by decide +kernel
theorem dS_nearestKeys_30 : decode cS_nearestKeys 30 = .ok (.iconst 1, 1) := by decide +kernel
theorem dS_nearestKeys_31 : decode cS_nearestKeys 31 = .ok (.iload_n 3, 1) := by decide +kernel
theorem dS_nearestKeys_32 : decode cS_nearestKeys 32 = .ok (.ishl, 1) := by decide +kernel
theorem dS_nearestKeys_33 : decode cS_nearestKeys 33 = .ok (.ior, 1) := by decide +kernel
theorem dS_nearestKeys_34 : decode cS_nearestKeys 34 = .ok (.istore_n 2, 1) := by decide +kernel
theorem dS_nearestKeys_35 : decode cS_nearestKeys 35 = .ok (.iinc 3 1, 3) := by decide +kernel
theorem dS_nearestKeys_38 : decode cS_nearestKeys 38 = .ok (.goto (-34), 3) := by decide +kernel
theorem dS_nearestKeys_41 : decode cS_nearestKeys 41 = .ok (.iload_n 2, 1) := by decide +kernel
theorem dS_nearestKeys_42 : decode cS_nearestKeys 42 = .ok (.ireturn, 1) := by decide +kernel
theorem dS_isCovered_0 : decode cS_isCovered 0 = .ok (.iconst 0, 1) := by decide +kernel
theorem dS_isCovered_1 : decode cS_isCovered 1 = .ok (.istore_n 3, 1) := by decide +kernel
theorem dS_isCovered_2 : decode cS_isCovered 2 = .ok (.iload_n 3, 1) := by decide +kernel
theorem dS_isCovered_3 : decode cS_isCovered 3 = .ok (.bipush 6, 2) := by decide +kernel
theorem dS_isCovered_5 : decode cS_isCovered 5 = .ok (.if_icmp .ge 48, 3) := by decide +kernel
theorem dS_isCovered_8 : decode cS_isCovered 8 = .ok (.aload_n 1, 1) := by decide +kernel
theorem dS_isCovered_9 : decode cS_isCovered 9 = .ok (.iload_n 3, 1) := by decide +kernel
theorem dS_isCovered_10 : decode cS_isCovered 10 = .ok (.iaload, 1) := by decide +kernel
theorem dS_isCovered_11 : decode cS_isCovered 11 = .ok (.istore 4, 2) := by decide +kernel
theorem dS_isCovered_13 : decode cS_isCovered 13 = .ok (.iload_n 3, 1) := by decide +kernel
theorem dS_isCovered_14 : decode cS_isCovered 14 = .ok (.iload_n 2, 1) := by decide +kernel
theorem dS_isCovered_15 : decode cS_isCovered 15 = .ok (.if_icmp .eq 32, 3) := by decide +kernel
theorem dS_isCovered_18 : decode cS_isCovered 18 = .ok (.aload_n 0, 1) := by decide +kernel
theorem dS_isCovered_19 : decode cS_isCovered 19 = .ok (.iload 4, 2) := by decide +kernel
theorem dS_isCovered_21 : decode cS_isCovered 21 = .ok (.invokevirtual 123, 3) := by decide +kernel
theorem dS_isCovered_24 : decode cS_isCovered 24 = .ok (.ifCond .eq 23, 3) := by decide +kernel
theorem dS_isCovered_27 : decode cS_isCovered 27 = .ok (.aload_n 0, 1) := by decide +kernel
theorem dS_isCovered_28 : decode cS_isCovered 28 = .ok (.getfield 11, 3) := by decide +kernel
theorem dS_isCovered_31 : decode cS_isCovered 31 = .ok (.iload 4, 2) := by decide +kernel
theorem dS_isCovered_33 : decode cS_isCovered 33 = .ok (.aaload, 1) := by decide +kernel
theorem dS_isCovered_34 : decode cS_isCovered 34 = .ok (.getfield 178, 3) := by decide +kernel
theorem dS_isCovered_37 : decode cS_isCovered 37 = .ok (.iload_n 2, 1) := by decide +kernel
theorem dS_isCovered_38 : decode cS_isCovered 38 = .ok (.iaload, 1) := by decide +kernel
theorem dS_isCovered_39 : decode cS_isCovered 39 = .ok (.aload_n 1, 1) := by decide +kernel
theorem dS_isCovered_40 : decode cS_isCovered 40 = .ok (.iload_n 2, 1) := by decide +kernel
theorem dS_isCovered_41 : decode cS_isCovered 41 = .ok (.iaload, 1) := by decide +kernel
theorem dS_isCovered_42 : decode cS_isCovered 42 = .ok (.if_icmp .ne 5, 3) := by decide +kernel
theorem dS_isCovered_45 : decode cS_isCovered 45 = .ok (.iconst 1, 1) := by decide +kernel
theorem dS_isCovered_46 : decode cS_isCovered 46 = .ok (.ireturn, 1) := by decide +kernel
theorem dS_isCovered_47 : decode cS_isCovered 47 = .ok (.iinc 3 1, 3) := by decide +kernel
theorem dS_isCovered_50 : decode cS_isCovered 50 = .ok (.goto (-48), 3) := by decide +kernel
theorem dS_isCovered_53 : decode cS_isCovered 53 = .ok (.iconst 0, 1) := by decide +kernel
theorem dS_isCovered_54 : decode cS_isCovered 54 = .ok (.ireturn, 1) := by decide +kernel
theorem dS_missingNeeds_0 : decode cS_missingNeeds 0 = .ok (.iconst 0, 1) := by decide +kernel
theorem dS_missingNeeds_1 : decode cS_missingNeeds 1 = .ok (.istore_n 3, 1) := by decide +kernel
theorem dS_missingNeeds_2 : decode cS_missingNeeds 2 = .ok (.iconst 0, 1) := by decide +kernel
theorem dS_missingNeeds_3 : decode cS_missingNeeds 3 = .ok (.istore 4, 2) := by decide +kernel
theorem dS_missingNeeds_5 : decode cS_missingNeeds 5 = .ok (.iload 4, 2) := by decide +kernel
theorem dS_missingNeeds_7 : decode cS_missingNeeds 7 = .ok (.bipush 6, 2) := by decide +kernel
theorem dS_missingNeeds_9 : decode cS_missingNeeds 9 = .ok (.if_icmp .ge 49, 3) := by decide +kernel
theorem dS_missingNeeds_12 : decode cS_missingNeeds 12 = .ok (.aload_n 0, 1) := by decide +kernel
theorem dS_missingNeeds_13 : decode cS_missingNeeds 13 = .ok (.getfield 11, 3) := by decide +kernel
theorem dS_missingNeeds_16 : decode cS_missingNeeds 16 = .ok (.iload_n 2, 1) := by decide +kernel
theorem dS_missingNeeds_17 : decode cS_missingNeeds 17 = .ok (.aaload, 1) := by decide +kernel
theorem dS_missingNeeds_18 : decode cS_missingNeeds 18 = .ok (.getfield 175, 3) := by decide +kernel
theorem dS_missingNeeds_21 : decode cS_missingNeeds 21 = .ok (.iload 4, 2) := by decide +kernel
theorem dS_missingNeeds_23 : decode cS_missingNeeds 23 = .ok (.invokestatic 186, 3) := by decide +kernel
theorem dS_missingNeeds_26 : decode cS_missingNeeds 26 = .ok (.ifCond .eq 26, 3) := by decide +kernel
theorem dS_missingNeeds_29 : decode cS_missingNeeds 29 = .ok (.aload_n 0, 1) := by decide +kernel
theorem dS_missingNeeds_30 : decode cS_missingNeeds 30 = .ok (.iload_n 1, 1) := by decide +kernel
theorem dS_missingNeeds_31 : decode cS_missingNeeds 31 = .ok (.aload_n 0, 1) := by decide +kernel
theorem dS_missingNeeds_32 : decode cS_missingNeeds 32 = .ok (.getfield 11, 3) := by decide +kernel
theorem dS_missingNeeds_35 : decode cS_missingNeeds 35 = .ok (.iload_n 2, 1) := by decide +kernel
theorem dS_missingNeeds_36 : decode cS_missingNeeds 36 = .ok (.aaload, 1) := by decide +kernel
theorem dS_missingNeeds_37 : decode cS_missingNeeds 37 = .ok (.getfield 178, 3) := by decide +kernel
theorem dS_missingNeeds_40 : decode cS_missingNeeds 40 = .ok (.iload 4, 2) := by decide +kernel
theorem dS_missingNeeds_42 : decode cS_missingNeeds 42 = .ok (.iaload, 1) := by decide +kernel
theorem dS_missingNeeds_43 : decode cS_missingNeeds 43 = .ok (.invokevirtual 190, 3) := by decide +kernel
theorem dS_missingNeeds_46 : decode cS_missingNeeds 46 = .ok (.ifCond .ne 6, 3) := by decide +kernel
theorem dS_missingNeeds_49 : decode cS_missingNeeds 49 = .ok (.iinc 3 1, 3) := by decide +kernel
theorem dS_missingNeeds_52 : decode cS_missingNeeds 52 = .ok (.iinc 4 1, 3) := by decide +kernel
theorem dS_missingNeeds_55 : decode cS_missingNeeds 55 = .ok (.goto (-50), 3) := by decide +kernel
theorem dS_missingNeeds_58 : decode cS_missingNeeds 58 = .ok (.iload_n 3, 1) := by decide +kernel
theorem dS_missingNeeds_59 : decode cS_missingNeeds 59 = .ok (.ireturn, 1) := by decide +kernel
theorem dS_readLowestKey_0 : decode cS_readLowestKey 0 = .ok (.iconst 0, 1) := by decide +kernel
theorem dS_readLowestKey_1 : decode cS_readLowestKey 1 = .ok (.istore_n 2, 1) := by decide +kernel
theorem dS_readLowestKey_2 : decode cS_readLowestKey 2 = .ok (.iload_n 2, 1) := by decide +kernel
theorem dS_readLowestKey_3 : decode cS_readLowestKey 3 = .ok (.bipush 6, 2) := by decide +kernel
theorem dS_readLowestKey_5 : decode cS_readLowestKey 5 = .ok (.if_icmp .ge 72, 3) := by decide +kernel
theorem dS_readLowestKey_8 : decode cS_readLowestKey 8 = .ok (.aload_n 1, 1) := by decide +kernel
theorem dS_readLowestKey_9 : decode cS_readLowestKey 9 = .ok (.getfield 98, 3) := by decide +kernel
theorem dS_readLowestKey_12 : decode cS_readLowestKey 12 = .ok (.iload_n 2, 1) := by decide +kernel
theorem dS_readLowestKey_13 : decode cS_readLowestKey 13 = .ok (.invokestatic 186, 3) := by decide +kernel
theorem dS_readLowestKey_16 : decode cS_readLowestKey 16 = .ok (.ifCond .eq 55, 3) := by decide +kernel
theorem dS_readLowestKey_19 : decode cS_readLowestKey 19 = .ok (.aload_n 1, 1) := by decide +kernel
theorem dS_readLowestKey_20 : decode cS_readLowestKey 20 = .ok (.getfield 101, 3) := by decide +kernel
theorem dS_readLowestKey_23 : decode cS_readLowestKey 23 = .ok (.iconst 1, 1) := by decide +kernel
theorem dS_readLowestKey_24 : decode cS_readLowestKey 24 = .ok (.if_icmp .ne 18, 3) := by decide +kernel
theorem dS_readLowestKey_27 : decode cS_readLowestKey 27 = .ok (.aload_n 0, 1) := by decide +kernel
theorem dS_readLowestKey_28 : decode cS_readLowestKey 28 = .ok (.getfield 17, 3) := by decide +kernel
theorem dS_readLowestKey_31 : decode cS_readLowestKey 31 = .ok (.aload_n 1, 1) := by decide +kernel
theorem dS_readLowestKey_32 : decode cS_readLowestKey 32 = .ok (.getfield 58, 3) := by decide +kernel
theorem dS_readLowestKey_35 : decode cS_readLowestKey 35 = .ok (.aaload, 1) := by decide +kernel
theorem dS_readLowestKey_36 : decode cS_readLowestKey 36 = .ok (.getfield 88, 3) := by decide +kernel
theorem dS_readLowestKey_39 : decode cS_readLowestKey 39 = .ok (.goto 7, 3) := by decide +kernel
theorem dS_readLowestKey_42 : decode cS_readLowestKey 42 = .ok (.aload_n 1, 1) := by decide +kernel
theorem dS_readLowestKey_43 : decode cS_readLowestKey 43 = .ok (.getfield 193, 3) := by decide +kernel
theorem dS_readLowestKey_46 : decode cS_readLowestKey 46 = .ok (.astore_n 3, 1) := by decide +kernel
theorem dS_readLowestKey_47 : decode cS_readLowestKey 47 = .ok (.aload_n 1, 1) := by decide +kernel
theorem dS_readLowestKey_48 : decode cS_readLowestKey 48 = .ok (.getfield 116, 3) := by decide +kernel
theorem dS_readLowestKey_51 : decode cS_readLowestKey 51 = .ok (.iload_n 2, 1) := by decide +kernel
theorem dS_readLowestKey_52 : decode cS_readLowestKey 52 = .ok (.aload_n 3, 1) := by decide +kernel
theorem dS_readLowestKey_53 : decode cS_readLowestKey 53 = .ok (.iload_n 2, 1) := by decide +kernel
theorem dS_readLowestKey_54 : decode cS_readLowestKey 54 = .ok (.iaload, 1) := by decide +kernel
theorem dS_readLowestKey_55 : decode cS_readLowestKey 55 = .ok (.iastore, 1) := by decide +kernel
theorem dS_readLowestKey_56 : decode cS_readLowestKey 56 = .ok (.aload_n 1, 1) := by decide +kernel
theorem dS_readLowestKey_57 : decode cS_readLowestKey 57 = .ok (.dup, 1) := by decide +kernel
theorem dS_readLowestKey_58 : decode cS_readLowestKey 58 = .ok (.getfield 98, 3) := by decide +kernel
theorem dS_readLowestKey_61 : decode cS_readLowestKey 61 = .ok (.iconst 1, 1) := by decide +kernel
theorem dS_readLowestKey_62 : decode cS_readLowestKey 62 = .ok (.iload_n 2, 1) := by decide +kernel
theorem dS_readLowestKey_63 : decode cS_readLowestKey 63 = .ok (.ishl, 1) := by decide +kernel
theorem dS_readLowestKey_64 : decode cS_readLowestKey 64 = .ok (.iconst (-1), 1) := by decide +kernel
theorem dS_readLowestKey_65 : decode cS_readLowestKey 65 = .ok (.ixor, 1) := by decide +kernel
theorem dS_readLowestKey_66 : decode cS_readLowestKey 66 = .ok (.iand, 1) := by decide +kernel
theorem dS_readLowestKey_67 : decode cS_readLowestKey 67 = .ok (.putfield 98, 3) := by decide +kernel
theorem dS_readLowestKey_70 : decode cS_readLowestKey 70 = .ok (.return_, 1) := by decide +kernel
theorem dS_readLowestKey_71 : decode cS_readLowestKey 71 = .ok (.iinc 2 1, 3) := by decide +kernel
theorem dS_readLowestKey_74 : decode cS_readLowestKey 74 = .ok (.goto (-72), 3) := by decide +kernel
theorem dS_readLowestKey_77 : decode cS_readLowestKey 77 = .ok (.return_, 1) := by decide +kernel
theorem dS_prepareSecondRound_0 : decode cS_prepareSecondRound 0 = .ok (.iconst 0, 1) := by decide +kernel
theorem dS_prepareSecondRound_1 : decode cS_prepareSecondRound 1 = .ok (.istore_n 2, 1) := by decide +kernel
theorem dS_prepareSecondRound_2 : decode cS_prepareSecondRound 2 = .ok (.iload_n 2, 1) := by decide +kernel
theorem dS_prepareSecondRound_3 : decode cS_prepareSecondRound 3 = .ok (.bipush 6, 2) := by decide +kernel
theorem dS_prepareSecondRound_5 : decode cS_prepareSecondRound 5 = .ok (.if_icmp .ge 62, 3) := by decide +kernel
theorem dS_prepareSecondRound_8 : decode cS_prepareSecondRound 8 = .ok (.aload_n 1, 1) := by decide +kernel
theorem dS_prepareSecondRound_9 : decode cS_prepareSecondRound 9 = .ok (.getfield 193, 3) := by decide +kernel
theorem dS_prepareSecondRound_12 : decode cS_prepareSecondRound 12 = .ok (.iload_n 2, 1) := by decide +kernel
theorem dS_prepareSecondRound_13 : decode cS_prepareSecondRound 13 = .ok (.aload_n 0, 1) := by decide +kernel
theorem dS_prepareSecondRound_14 : decode cS_prepareSecondRound 14 = .ok (.aload_n 1, 1) := by decide +kernel
theorem dS_prepareSecondRound_15 : decode cS_prepareSecondRound 15 = .ok (.getfield 116, 3) := by decide +kernel
theorem dS_prepareSecondRound_18 : decode cS_prepareSecondRound 18 = .ok (.iload_n 2, 1) := by decide +kernel
theorem dS_prepareSecondRound_19 : decode cS_prepareSecondRound 19 = .ok (.invokevirtual 196, 3) := by decide +kernel
theorem dS_prepareSecondRound_22 : decode cS_prepareSecondRound 22 = .ok (.iastore, 1) := by decide +kernel
theorem dS_prepareSecondRound_23 : decode cS_prepareSecondRound 23 = .ok (.aload_n 1, 1) := by decide +kernel
theorem dS_prepareSecondRound_24 : decode cS_prepareSecondRound 24 = .ok (.getfield 200, 3) := by decide +kernel
theorem dS_prepareSecondRound_27 : decode cS_prepareSecondRound 27 = .ok (.iload_n 2, 1) := by decide +kernel
theorem dS_prepareSecondRound_28 : decode cS_prepareSecondRound 28 = .ok (.invokestatic 186, 3) := by decide +kernel
theorem dS_prepareSecondRound_31 : decode cS_prepareSecondRound 31 = .ok (.ifCond .eq 30, 3) := by decide +kernel
theorem dS_prepareSecondRound_34 : decode cS_prepareSecondRound 34 = .ok (.aload_n 1, 1) := by decide +kernel
theorem dS_prepareSecondRound_35 : decode cS_prepareSecondRound 35 = .ok (.getfield 193, 3) := by decide +kernel
theorem dS_prepareSecondRound_38 : decode cS_prepareSecondRound 38 = .ok (.iload_n 2, 1) := by decide +kernel
theorem dS_prepareSecondRound_39 : decode cS_prepareSecondRound 39 = .ok (.iaload, 1) := by decide +kernel
theorem dS_prepareSecondRound_40 : decode cS_prepareSecondRound 40 = .ok (.aload_n 1, 1) := by decide +kernel
theorem dS_prepareSecondRound_41 : decode cS_prepareSecondRound 41 = .ok (.getfield 116, 3) := by decide +kernel
theorem dS_prepareSecondRound_44 : decode cS_prepareSecondRound 44 = .ok (.iload_n 2, 1) := by decide +kernel
theorem dS_prepareSecondRound_45 : decode cS_prepareSecondRound 45 = .ok (.iaload, 1) := by decide +kernel
theorem dS_prepareSecondRound_46 : decode cS_prepareSecondRound 46 = .ok (.if_icmp .eq 15, 3) := by decide +kernel
theorem dS_prepareSecondRound_49 : decode cS_prepareSecondRound 49 = .ok (.aload_n 1, 1) := by decide +kernel
theorem dS_prepareSecondRound_50 : decode cS_prepareSecondRound 50 = .ok (.dup, 1) := by decide +kernel
theorem dS_prepareSecondRound_51 : decode cS_prepareSecondRound 51 = .ok (.getfield 98, 3) := by decide +kernel
theorem dS_prepareSecondRound_54 : decode cS_prepareSecondRound 54 = .ok (.iconst 1, 1) := by decide +kernel
theorem dS_prepareSecondRound_55 : decode cS_prepareSecondRound 55 = .ok (.iload_n 2, 1) := by decide +kernel
theorem dS_prepareSecondRound_56 : decode cS_prepareSecondRound 56 = .ok (.ishl, 1) := by decide +kernel
theorem dS_prepareSecondRound_57 : decode cS_prepareSecondRound 57 = .ok (.ior, 1) := by decide +kernel
theorem dS_prepareSecondRound_58 : decode cS_prepareSecondRound 58 = .ok (.putfield 98, 3) := by decide +kernel
theorem dS_prepareSecondRound_61 : decode cS_prepareSecondRound 61 = .ok (.iinc 2 1, 3) := by decide +kernel
theorem dS_prepareSecondRound_64 : decode cS_prepareSecondRound 64 = .ok (.goto (-62), 3) := by decide +kernel
theorem dS_prepareSecondRound_67 : decode cS_prepareSecondRound 67 = .ok (.aload_n 1, 1) := by decide +kernel
theorem dS_prepareSecondRound_68 : decode cS_prepareSecondRound 68 = .ok (.getfield 98, 3) := by decide +kernel
theorem dS_prepareSecondRound_71 : decode cS_prepareSecondRound 71 = .ok (.ifCond .eq 8, 3) := by decide +kernel
theorem dS_prepareSecondRound_74 : decode cS_prepareSecondRound 74 = .ok (.aload_n 1, 1) := by decide +kernel
theorem dS_prepareSecondRound_75 : decode cS_prepareSecondRound 75 = .ok (.iconst 2, 1) := by decide +kernel
theorem dS_prepareSecondRound_76 : decode cS_prepareSecondRound 76 = .ok (.putfield 101, 3) := by decide +kernel
theorem dS_prepareSecondRound_79 : decode cS_prepareSecondRound 79 = .ok (.return_, 1) := by decide +kernel
theorem dS_dueWrite_0 : decode cS_dueWrite 0 = .ok (.aload_n 1, 1) := by decide +kernel
theorem dS_dueWrite_1 : decode cS_dueWrite 1 = .ok (.iload_n 2, 1) := by decide +kernel
theorem dS_dueWrite_2 : decode cS_dueWrite 2 = .ok (.iaload, 1) := by decide +kernel
theorem dS_dueWrite_3 : decode cS_dueWrite 3 = .ok (.istore_n 3, 1) := by decide +kernel
theorem dS_dueWrite_4 : decode cS_dueWrite 4 = .ok (.iconst 0, 1) := by decide +kernel
theorem dS_dueWrite_5 : decode cS_dueWrite 5 = .ok (.istore 4, 2) := by decide +kernel
theorem dS_dueWrite_7 : decode cS_dueWrite 7 = .ok (.iload 4, 2) := by decide +kernel
theorem dS_dueWrite_9 : decode cS_dueWrite 9 = .ok (.bipush 6, 2) := by decide +kernel
theorem dS_dueWrite_11 : decode cS_dueWrite 11 = .ok (.if_icmp .ge 40, 3) := by decide +kernel
theorem dS_dueWrite_14 : decode cS_dueWrite 14 = .ok (.aload_n 0, 1) := by decide +kernel
theorem dS_dueWrite_15 : decode cS_dueWrite 15 = .ok (.aload_n 1, 1) := by decide +kernel
theorem dS_dueWrite_16 : decode cS_dueWrite 16 = .ok (.iload 4, 2) := by decide +kernel
theorem dS_dueWrite_18 : decode cS_dueWrite 18 = .ok (.iaload, 1) := by decide +kernel
theorem dS_dueWrite_19 : decode cS_dueWrite 19 = .ok (.invokevirtual 123, 3) := by decide +kernel
theorem dS_dueWrite_22 : decode cS_dueWrite 22 = .ok (.ifCond .eq 23, 3) := by decide +kernel
theorem dS_dueWrite_25 : decode cS_dueWrite 25 = .ok (.aload_n 0, 1) := by decide +kernel
theorem dS_dueWrite_26 : decode cS_dueWrite 26 = .ok (.iload_n 3, 1) := by decide +kernel
theorem dS_dueWrite_27 : decode cS_dueWrite 27 = .ok (.aload_n 0, 1) := by decide +kernel
theorem dS_dueWrite_28 : decode cS_dueWrite 28 = .ok (.getfield 11, 3) := by decide +kernel
theorem dS_dueWrite_31 : decode cS_dueWrite 31 = .ok (.aload_n 1, 1) := by decide +kernel
theorem dS_dueWrite_32 : decode cS_dueWrite 32 = .ok (.iload 4, 2) := by decide +kernel
theorem dS_dueWrite_34 : decode cS_dueWrite 34 = .ok (.iaload, 1) := by decide +kernel
theorem dS_dueWrite_35 : decode cS_dueWrite 35 = .ok (.aaload, 1) := by decide +kernel
theorem dS_dueWrite_36 : decode cS_dueWrite 36 = .ok (.getfield 178, 3) := by decide +kernel
theorem dS_dueWrite_39 : decode cS_dueWrite 39 = .ok (.iload_n 2, 1) := by decide +kernel
theorem dS_dueWrite_40 : decode cS_dueWrite 40 = .ok (.iaload, 1) := by decide +kernel
theorem dS_dueWrite_41 : decode cS_dueWrite 41 = .ok (.invokevirtual 179, 3) := by decide +kernel
theorem dS_dueWrite_44 : decode cS_dueWrite 44 = .ok (.istore_n 3, 1) := by decide +kernel
theorem dS_dueWrite_45 : decode cS_dueWrite 45 = .ok (.iinc 4 1, 3) := by decide +kernel
theorem dS_dueWrite_48 : decode cS_dueWrite 48 = .ok (.goto (-41), 3) := by decide +kernel
theorem dS_dueWrite_51 : decode cS_dueWrite 51 = .ok (.iload_n 3, 1) := by decide +kernel
theorem dS_dueWrite_52 : decode cS_dueWrite 52 = .ok (.ireturn, 1) := by decide +kernel
theorem dS_seeFetched_0 : decode cS_seeFetched 0 = .ok (.iconst 0, 1) := by decide +kernel
theorem dS_seeFetched_1 : decode cS_seeFetched 1 = .ok (.istore_n 2, 1) := by decide +kernel
theorem dS_seeFetched_2 : decode cS_seeFetched 2 = .ok (.iload_n 2, 1) := by decide +kernel
theorem dS_seeFetched_3 : decode cS_seeFetched 3 = .ok (.bipush 6, 2) := by decide +kernel
theorem dS_seeFetched_5 : decode cS_seeFetched 5 = .ok (.if_icmp .ge 20, 3) := by decide +kernel
theorem dS_seeFetched_8 : decode cS_seeFetched 8 = .ok (.aload_n 0, 1) := by decide +kernel
theorem dS_seeFetched_9 : decode cS_seeFetched 9 = .ok (.aload_n 1, 1) := by decide +kernel
theorem dS_seeFetched_10 : decode cS_seeFetched 10 = .ok (.aload_n 1, 1) := by decide +kernel
theorem dS_seeFetched_11 : decode cS_seeFetched 11 = .ok (.getfield 116, 3) := by decide +kernel
theorem dS_seeFetched_14 : decode cS_seeFetched 14 = .ok (.iload_n 2, 1) := by decide +kernel
theorem dS_seeFetched_15 : decode cS_seeFetched 15 = .ok (.iaload, 1) := by decide +kernel
theorem dS_seeFetched_16 : decode cS_seeFetched 16 = .ok (.invokevirtual 84, 3) := by decide +kernel
theorem dS_seeFetched_19 : decode cS_seeFetched 19 = .ok (.iinc 2 1, 3) := by decide +kernel
theorem dS_seeFetched_22 : decode cS_seeFetched 22 = .ok (.goto (-20), 3) := by decide +kernel
theorem dS_seeFetched_25 : decode cS_seeFetched 25 = .ok (.return_, 1) := by decide +kernel
theorem dS_noWrites_0 : decode cS_noWrites 0 = .ok (.bipush 6, 2) := by decide +kernel
theorem dS_noWrites_2 : decode cS_noWrites 2 = .ok (.newarray .int, 2) := by decide +kernel
theorem dS_noWrites_4 : decode cS_noWrites 4 = .ok (.astore_n 0, 1) := by decide +kernel
theorem dS_noWrites_5 : decode cS_noWrites 5 = .ok (.aload_n 0, 1) := by decide +kernel
theorem dS_noWrites_6 : decode cS_noWrites 6 = .ok (.bipush (-4), 2) := by decide +kernel
theorem dS_noWrites_8 : decode cS_noWrites 8 = .ok (.invokestatic 203, 3) := by decide +kernel
theorem dS_noWrites_11 : decode cS_noWrites 11 = .ok (.aload_n 0, 1) := by decide +kernel
theorem dS_noWrites_12 : decode cS_noWrites 12 = .ok (.areturn, 1) := by decide +kernel
