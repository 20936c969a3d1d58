theorem dX0_init_0 : decode cX0_init 0 = .ok (.aload_n 0, 1) := by decide +kernel
theorem dX0_init_1 : decode cX0_init 1 = .ok (.invokespecial 3, 3) := by decide +kernel
theorem dX0_init_4 : decode cX0_init 4 = .ok (.aload_n 0, 1) := by decide +kernel
theorem dX0_init_5 : decode cX0_init 5 = .ok (.bipush 6, 2) := by decide +kernel
theorem dX0_init_7 : decode cX0_init 7 = .ok (.anewarray 9, 3) := by decide +kernel
theorem dX0_init_10 : decode cX0_init 10 = .ok (.putfield 11, 3) := by decide +kernel
theorem dX0_init_13 : decode cX0_init 13 = .ok (.iconst 0, 1) := by decide +kernel
theorem dX0_init_14 : decode cX0_init 14 = .ok (.istore_n 1, 1) := by decide +kernel
theorem dX0_init_15 : decode cX0_init 15 = .ok (.iload_n 1, 1) := by decide +kernel
theorem dX0_init_16 : decode cX0_init 16 = .ok (.bipush 6, 2) := by decide +kernel
theorem dX0_init_18 : decode cX0_init 18 = .ok (.if_icmp .ge 22, 3) := by decide +kernel
theorem dX0_init_21 : decode cX0_init 21 = .ok (.aload_n 0, 1) := by decide +kernel
theorem dX0_init_22 : decode cX0_init 22 = .ok (.getfield 11, 3) := by decide +kernel
theorem dX0_init_25 : decode cX0_init 25 = .ok (.iload_n 1, 1) := by decide +kernel
theorem dX0_init_26 : decode cX0_init 26 = .ok (.new 9, 3) := by decide +kernel
theorem dX0_init_29 : decode cX0_init 29 = .ok (.dup, 1) := by decide +kernel
theorem dX0_init_30 : decode cX0_init 30 = .ok (.invokespecial 17, 3) := by decide +kernel
theorem dX0_init_33 : decode cX0_init 33 = .ok (.aastore, 1) := by decide +kernel
theorem dX0_init_34 : decode cX0_init 34 = .ok (.iinc 1 1, 3) := by decide +kernel
theorem dX0_init_37 : decode cX0_init 37 = .ok (.goto (-22), 3) := by decide +kernel
theorem dX0_init_40 : decode cX0_init 40 = .ok (.return_, 1) := by decide +kernel
theorem dX0_save_0 : decode cX0_save 0 = .ok (.aload_n 0, 1) := by decide +kernel
theorem dX0_save_1 : decode cX0_save 1 = .ok (.getfield 18, 3) := by decide +kernel
theorem dX0_save_4 : decode cX0_save 4 = .ok (.bipush 6, 2) := by decide +kernel
theorem dX0_save_6 : decode cX0_save 6 = .ok (.if_icmp .lt 7, 3) := by decide +kernel
theorem dX0_save_9 : decode cX0_save 9 = .ok (.aload_n 0, 1) := by decide +kernel
theorem dX0_save_10 : decode cX0_save 10 = .ok (.invokevirtual 22, 3) := by decide +kernel
theorem dX0_save_13 : decode cX0_save 13 = .ok (.aload_n 0, 1) := by decide +kernel
theorem dX0_save_14 : decode cX0_save 14 = .ok (.getfield 11, 3) := by decide +kernel
theorem dX0_save_17 : decode cX0_save 17 = .ok (.aload_n 0, 1) := by decide +kernel
theorem dX0_save_18 : decode cX0_save 18 = .ok (.getfield 18, 3) := by decide +kernel
theorem dX0_save_21 : decode cX0_save 21 = .ok (.aaload, 1) := by decide +kernel
theorem dX0_save_22 : decode cX0_save 22 = .ok (.aload_n 1, 1) := by decide +kernel
theorem dX0_save_23 : decode cX0_save 23 = .ok (.invokevirtual 25, 3) := by decide +kernel
theorem dX0_save_26 : decode cX0_save 26 = .ok (.aload_n 0, 1) := by decide +kernel
theorem dX0_save_27 : decode cX0_save 27 = .ok (.dup, 1) := by decide +kernel
theorem dX0_save_28 : decode cX0_save 28 = .ok (.getfield 18, 3) := by decide +kernel
theorem dX0_save_31 : decode cX0_save 31 = .ok (.iconst 1, 1) := by decide +kernel
theorem dX0_save_32 : decode cX0_save 32 = .ok (.iadd, 1) := by decide +kernel
theorem dX0_save_33 : decode cX0_save 33 = .ok (.putfield 18, 3) := by decide +kernel
theorem dX0_save_36 : decode cX0_save 36 = .ok (.return_, 1) := by decide +kernel
theorem dX0_dropOldest_0 : decode cX0_dropOldest 0 = .ok (.aload_n 0, 1) := by decide +kernel
theorem dX0_dropOldest_1 : decode cX0_dropOldest 1 = .ok (.getfield 11, 3) := by decide +kernel
theorem dX0_dropOldest_4 : decode cX0_dropOldest 4 = .ok (.iconst 0, 1) := by decide +kernel
theorem dX0_dropOldest_5 : decode cX0_dropOldest 5 = .ok (.aaload, 1) := by decide +kernel
theorem dX0_dropOldest_6 : decode cX0_dropOldest 6 = .ok (.astore_n 1, 1) := by decide +kernel
theorem dX0_dropOldest_7 : decode cX0_dropOldest 7 = .ok (.iconst 1, 1) := by decide +kernel
theorem dX0_dropOldest_8 : decode cX0_dropOldest 8 = .ok (.istore_n 2, 1) := by decide +kernel
theorem dX0_dropOldest_9 : decode cX0_dropOldest 9 = .ok (.iload_n 2, 1) := by decide +kernel
theorem dX0_dropOldest_10 : decode cX0_dropOldest 10 = .ok (.bipush 6, 2) := by decide +kernel
theorem dX0_dropOldest_12 : decode cX0_dropOldest 12 = .ok (.if_icmp .ge 23, 3) := by decide +kernel
theorem dX0_dropOldest_15 : decode cX0_dropOldest 15 = .ok (.aload_n 0, 1) := by decide +kernel
theorem dX0_dropOldest_16 : decode cX0_dropOldest 16 = .ok (.getfield 11, 3) := by decide +kernel
theorem dX0_dropOldest_19 : decode cX0_dropOldest 19 = .ok (.iload_n 2, 1) := by decide +kernel
theorem dX0_dropOldest_20 : decode cX0_dropOldest 20 = .ok (.iconst 1, 1) := by decide +kernel
theorem dX0_dropOldest_21 : decode cX0_dropOldest 21 = .ok (.isub, 1) := by decide +kernel
theorem dX0_dropOldest_22 : decode cX0_dropOldest 22 = .ok (.aload_n 0, 1) := by decide +kernel
theorem dX0_dropOldest_23 : decode cX0_dropOldest 23 = .ok (.getfield 11, 3) := by decide +kernel
theorem dX0_dropOldest_26 : decode cX0_dropOldest 26 = .ok (.iload_n 2, 1) := by decide +kernel
theorem dX0_dropOldest_27 : decode cX0_dropOldest 27 = .ok (.aaload, 1) := by decide +kernel
theorem dX0_dropOldest_28 : decode cX0_dropOldest 28 = .ok (.aastore, 1) := by decide +kernel
theorem dX0_dropOldest_29 : decode cX0_dropOldest 29 = .ok (.iinc 2 1, 3) := by decide +kernel
theorem dX0_dropOldest_32 : decode cX0_dropOldest 32 = .ok (.goto (-23), 3) := by decide +kernel
theorem dX0_dropOldest_35 : decode cX0_dropOldest 35 = .ok (.aload_n 0, 1) := by decide +kernel
theorem dX0_dropOldest_36 : decode cX0_dropOldest 36 = .ok (.getfield 11, 3) := by decide +kernel
theorem dX0_dropOldest_39 : decode cX0_dropOldest 39 = .ok (.iconst 5, 1) := by decide +kernel
theorem dX0_dropOldest_40 : decode cX0_dropOldest 40 = .ok (.aload_n 1, 1) := by decide +kernel
theorem dX0_dropOldest_41 : decode cX0_dropOldest 41 = .ok (.aastore, 1) := by decide +kernel
theorem dX0_dropOldest_42 : decode cX0_dropOldest 42 = .ok (.aload_n 0, 1) := by decide +kernel
theorem dX0_dropOldest_43 : decode cX0_dropOldest 43 = .ok (.iconst 5, 1) := by decide +kernel
theorem dX0_dropOldest_44 : decode cX0_dropOldest 44 = .ok (.putfield 18, 3) := by decide +kernel
theorem dX0_dropOldest_47 : decode cX0_dropOldest 47 = .ok (.return_, 1) := by decide +kernel
theorem dX1_init_0 : decode cX1_init 0 = .ok (.aload_n 0, 1) := by decide +kernel
theorem dX1_init_1 : decode cX1_init 1 = .ok (.invokespecial 3, 3) := by decide +kernel
theorem dX1_init_4 : decode cX1_init 4 = .ok (.aload_n 0, 1) := by decide +kernel
theorem dX1_init_5 : decode cX1_init 5 = .ok (.bipush 7, 2) := by decide +kernel
theorem dX1_init_7 : decode cX1_init 7 = .ok (.newarray .int, 2) := by decide +kernel
theorem dX1_init_9 : decode cX1_init 9 = .ok (.putfield 9, 3) := by decide +kernel
theorem dX1_init_12 : decode cX1_init 12 = .ok (.aload_n 0, 1) := by decide +kernel
theorem dX1_init_13 : decode cX1_init 13 = .ok (.bipush 7, 2) := by decide +kernel
theorem dX1_init_15 : decode cX1_init 15 = .ok (.newarray .int, 2) := by decide +kernel
theorem dX1_init_17 : decode cX1_init 17 = .ok (.putfield 15, 3) := by decide +kernel
theorem dX1_init_20 : decode cX1_init 20 = .ok (.aload_n 0, 1) := by decide +kernel
theorem dX1_init_21 : decode cX1_init 21 = .ok (.bipush 7, 2) := by decide +kernel
theorem dX1_init_23 : decode cX1_init 23 = .ok (.newarray .int, 2) := by decide +kernel
theorem dX1_init_25 : decode cX1_init 25 = .ok (.putfield 18, 3) := by decide +kernel
theorem dX1_init_28 : decode cX1_init 28 = .ok (.aload_n 0, 1) := by decide +kernel
theorem dX1_init_29 : decode cX1_init 29 = .ok (.bipush 7, 2) := by decide +kernel
theorem dX1_init_31 : decode cX1_init 31 = .ok (.newarray .int, 2) := by decide +kernel
theorem dX1_init_33 : decode cX1_init 33 = .ok (.putfield 21, 3) := by decide +kernel
theorem dX1_init_36 : decode cX1_init 36 = .ok (.aload_n 0, 1) := by decide +kernel
theorem dX1_init_37 : decode cX1_init 37 = .ok (.bipush 7, 2) := by decide +kernel
theorem dX1_init_39 : decode cX1_init 39 = .ok (.newarray .int, 2) := by decide +kernel
theorem dX1_init_41 : decode cX1_init 41 = .ok (.putfield 24, 3) := by decide +kernel
theorem dX1_init_44 : decode cX1_init 44 = .ok (.aload_n 0, 1) := by decide +kernel
theorem dX1_init_45 : decode cX1_init 45 = .ok (.bipush 7, 2) := by decide +kernel
theorem dX1_init_47 : decode cX1_init 47 = .ok (.newarray .int, 2) := by decide +kernel
theorem dX1_init_49 : decode cX1_init 49 = .ok (.putfield 27, 3) := by decide +kernel
theorem dX1_init_52 : decode cX1_init 52 = .ok (.aload_n 0, 1) := by decide +kernel
theorem dX1_init_53 : decode cX1_init 53 = .ok (.bipush 7, 2) := by decide +kernel
theorem dX1_init_55 : decode cX1_init 55 = .ok (.newarray .int, 2) := by decide +kernel
theorem dX1_init_57 : decode cX1_init 57 = .ok (.putfield 30, 3) := by decide +kernel
theorem dX1_init_60 : decode cX1_init 60 = .ok (.aload_n 0, 1) := by decide +kernel
theorem dX1_init_61 : decode cX1_init 61 = .ok (.bipush 7, 2) := by decide +kernel
theorem dX1_init_63 : decode cX1_init 63 = .ok (.newarray .int, 2) := by decide +kernel
theorem dX1_init_65 : decode cX1_init 65 = .ok (.putfield 33, 3) := by decide +kernel
theorem dX1_init_68 : decode cX1_init 68 = .ok (.aload_n 0, 1) := by decide +kernel
theorem dX1_init_69 : decode cX1_init 69 = .ok (.bipush 7, 2) := by decide +kernel
theorem dX1_init_71 : decode cX1_init 71 = .ok (.newarray .int, 2) := by decide +kernel
theorem dX1_init_73 : decode cX1_init 73 = .ok (.putfield 36, 3) := by decide +kernel
theorem dX1_init_76 : decode cX1_init 76 = .ok (.aload_n 0, 1) := by decide +kernel
theorem dX1_init_77 : decode cX1_init 77 = .ok (.bipush 7, 2) := by decide +kernel
theorem dX1_init_79 : decode cX1_init 79 = .ok (.newarray .int, 2) := by decide +kernel
theorem dX1_init_81 : decode cX1_init 81 = .ok (.putfield 39, 3) := by decide +kernel
theorem dX1_init_84 : decode cX1_init 84 = .ok (.aload_n 0, 1) := by decide +kernel
theorem dX1_init_85 : decode cX1_init 85 = .ok (.bipush 7, 2) := by decide +kernel
theorem dX1_init_87 : decode cX1_init 87 = .ok (.newarray .int, 2) := by decide +kernel
theorem dX1_init_89 : decode cX1_init 89 = .ok (.putfield 42, 3) := by decide +kernel
theorem dX1_init_92 : decode cX1_init 92 = .ok (.aload_n 0, 1) := by decide +kernel
theorem dX1_init_93 : decode cX1_init 93 = .ok (.bipush 7, 2) := by decide +kernel
theorem dX1_init_95 : decode cX1_init 95 = .ok (.newarray .int, 2) := by decide +kernel
theorem dX1_init_97 : decode cX1_init 97 = .ok (.putfield 45, 3) := by decide +kernel
theorem dX1_init_100 : decode cX1_init 100 = .ok (.aload_n 0, 1) := by decide +kernel
theorem dX1_init_101 : decode cX1_init 101 = .ok (.bipush 7, 2) := by decide +kernel
theorem dX1_init_103 : decode cX1_init 103 = .ok (.newarray .int, 2) := by decide +kernel
theorem dX1_init_105 : decode cX1_init 105 = .ok (.putfield 48, 3) := by decide +kernel
theorem dX1_init_108 : decode cX1_init 108 = .ok (.aload_n 0, 1) := by decide +kernel
theorem dX1_init_109 : decode cX1_init 109 = .ok (.bipush 7, 2) := by decide +kernel
theorem dX1_init_111 : decode cX1_init 111 = .ok (.newarray .int, 2) := by decide +kernel
theorem dX1_init_113 : decode cX1_init 113 = .ok (.putfield 51, 3) := by decide +kernel
theorem dX1_init_116 : decode cX1_init 116 = .ok (.return_, 1) := by decide +kernel
theorem dX1_lowestPower_0 : decode cX1_lowestPower 0 = .ok (.iconst 2, 1) := by decide +kernel
theorem dX1_lowestPower_1 : decode cX1_lowestPower 1 = .ok (.istore_n 1, 1) := by decide +kernel
theorem dX1_lowestPower_2 : decode cX1_lowestPower 2 = .ok (.iload_n 1, 1) := by decide +kernel
theorem dX1_lowestPower_3 : decode cX1_lowestPower 3 = .ok (.bipush 6, 2) := by decide +kernel
theorem dX1_lowestPower_5 : decode cX1_lowestPower 5 = .ok (.if_icmp .gt 17, 3) := by decide +kernel
theorem dX1_lowestPower_8 : decode cX1_lowestPower 8 = .ok (.aload_n 0, 1) := by decide +kernel
theorem dX1_lowestPower_9 : decode cX1_lowestPower 9 = .ok (.iload_n 1, 1) := by decide +kernel
theorem dX1_lowestPower_10 : decode cX1_lowestPower 10 = .ok (.iaload, 1) := by decide +kernel
theorem dX1_lowestPower_11 : decode cX1_lowestPower 11 = .ok (.ifCond .eq 5, 3) := by decide +kernel
theorem dX1_lowestPower_14 : decode cX1_lowestPower 14 = .ok (.iload_n 1, 1) := by decide +kernel
theorem dX1_lowestPower_15 : decode cX1_lowestPower 15 = .ok (.ireturn, 1) := by decide +kernel
theorem dX1_lowestPower_16 : decode cX1_lowestPower 16 = .ok (.iinc 1 1, 3) := by decide +kernel
theorem dX1_lowestPower_19 : decode cX1_lowestPower 19 = .ok (.goto (-17), 3) := by decide +kernel
theorem dX1_lowestPower_22 : decode cX1_lowestPower 22 = .ok (.iconst (-1), 1) := by decide +kernel
theorem dX1_lowestPower_23 : decode cX1_lowestPower 23 = .ok (.ireturn, 1) := by decide +kernel
theorem dX1_addRows_0 : decode cX1_addRows 0 = .ok (.iconst 0, 1) := by decide +kernel
theorem dX1_addRows_1 : decode cX1_addRows 1 = .ok (.istore_n 3, 1) := by decide +kernel
theorem dX1_addRows_2 : decode cX1_addRows 2 = .ok (.iload_n 3, 1) := by decide +kernel
theorem dX1_addRows_3 : decode cX1_addRows 3 = .ok (.bipush 6, 2) := by decide +kernel
theorem dX1_addRows_5 : decode cX1_addRows 5 = .ok (.if_icmp .gt 23, 3) := by decide +kernel
theorem dX1_addRows_8 : decode cX1_addRows 8 = .ok (.aload_n 2, 1) := by decide +kernel
theorem dX1_addRows_9 : decode cX1_addRows 9 = .ok (.iload_n 3, 1) := by decide +kernel
theorem dX1_addRows_10 : decode cX1_addRows 10 = .ok (.aload_n 0, 1) := by decide +kernel
theorem dX1_addRows_11 : decode cX1_addRows 11 = .ok (.iload_n 3, 1) := by decide +kernel
theorem dX1_addRows_12 : decode cX1_addRows 12 = .ok (.iaload, 1) := by decide +kernel
theorem dX1_addRows_13 : decode cX1_addRows 13 = .ok (.aload_n 1, 1) := by decide +kernel
theorem dX1_addRows_14 : decode cX1_addRows 14 = .ok (.iload_n 3, 1) := by decide +kernel
theorem dX1_addRows_15 : decode cX1_addRows 15 = .ok (.iaload, 1) := by decide +kernel
theorem dX1_addRows_16 : decode cX1_addRows 16 = .ok (.iadd, 1) := by decide +kernel
theorem dX1_addRows_17 : decode cX1_addRows 17 = .ok (.sipush 10007, 3) := by decide +kernel
theorem dX1_addRows_20 : decode cX1_addRows 20 = .ok (.irem, 1) := by decide +kernel
theorem dX1_addRows_21 : decode cX1_addRows 21 = .ok (.iastore, 1) := by decide +kernel
theorem dX1_addRows_22 : decode cX1_addRows 22 = .ok (.iinc 3 1, 3) := by decide +kernel
theorem dX1_addRows_25 : decode cX1_addRows 25 = .ok (.goto (-23), 3) := by decide +kernel
theorem dX1_addRows_28 : decode cX1_addRows 28 = .ok (.return_, 1) := by decide +kernel
theorem dX1_scaleRow_0 : decode cX1_scaleRow 0 = .ok (.iconst 0, 1) := by decide +kernel
theorem dX1_scaleRow_1 : decode cX1_scaleRow 1 = .ok (.istore_n 3, 1) := by decide +kernel
theorem dX1_scaleRow_2 : decode cX1_scaleRow 2 = .ok (.iload_n 3, 1) := by decide +kernel
theorem dX1_scaleRow_3 : decode cX1_scaleRow 3 = .ok (.bipush 6, 2) := by decide +kernel
theorem dX1_scaleRow_5 : decode cX1_scaleRow 5 = .ok (.if_icmp .gt 24, 3) := by decide +kernel
theorem dX1_scaleRow_8 : decode cX1_scaleRow 8 = .ok (.aload_n 2, 1) := by decide +kernel
theorem dX1_scaleRow_9 : decode cX1_scaleRow 9 = .ok (.iload_n 3, 1) := by decide +kernel
theorem dX1_scaleRow_10 : decode cX1_scaleRow 10 = .ok (.aload_n 0, 1) := by decide +kernel
theorem dX1_scaleRow_11 : decode cX1_scaleRow 11 = .ok (.iload_n 3, 1) := by decide +kernel
theorem dX1_scaleRow_12 : decode cX1_scaleRow 12 = .ok (.iaload, 1) := by decide +kernel
theorem dX1_scaleRow_13 : decode cX1_scaleRow 13 = .ok (.i2l, 1) := by decide +kernel
theorem dX1_scaleRow_14 : decode cX1_scaleRow 14 = .ok (.iload_n 1, 1) := by decide +kernel
theorem dX1_scaleRow_15 : decode cX1_scaleRow 15 = .ok (.i2l, 1) := by decide +kernel
theorem dX1_scaleRow_16 : decode cX1_scaleRow 16 = .ok (.lmul, 1) := by decide +kernel
theorem dX1_scaleRow_17 : decode cX1_scaleRow 17 = .ok (.ldc2_w 54, 3) := by decide +kernel
theorem dX1_scaleRow_20 : decode cX1_scaleRow 20 = .ok (.lrem, 1) := by decide +kernel
theorem dX1_scaleRow_21 : decode cX1_scaleRow 21 = .ok (.l2i, 1) := by decide +kernel
theorem dX1_scaleRow_22 : decode cX1_scaleRow 22 = .ok (.iastore, 1) := by decide +kernel
theorem dX1_scaleRow_23 : decode cX1_scaleRow 23 = .ok (.iinc 3 1, 3) := by decide +kernel
theorem dX1_scaleRow_26 : decode cX1_scaleRow 26 = .ok (.goto (-24), 3) := by decide +kernel
theorem dX1_scaleRow_29 : decode cX1_scaleRow 29 = .ok (.return_, 1) := by decide +kernel
theorem dX1_addMultiple_0 : decode cX1_addMultiple 0 = .ok (.iconst 0, 1) := by decide +kernel
theorem dX1_addMultiple_1 : decode cX1_addMultiple 1 = .ok (.istore_n 3, 1) := by decide +kernel
theorem dX1_addMultiple_2 : decode cX1_addMultiple 2 = .ok (.iload_n 3, 1) := by decide +kernel
theorem dX1_addMultiple_3 : decode cX1_addMultiple 3 = .ok (.bipush 6, 2) := by decide +kernel
theorem dX1_addMultiple_5 : decode cX1_addMultiple 5 = .ok (.if_icmp .gt 29, 3) := by decide +kernel
theorem dX1_addMultiple_8 : decode cX1_addMultiple 8 = .ok (.aload_n 0, 1) := by decide +kernel
theorem dX1_addMultiple_9 : decode cX1_addMultiple 9 = .ok (.iload_n 3, 1) := by decide +kernel
theorem dX1_addMultiple_10 : decode cX1_addMultiple 10 = .ok (.aload_n 0, 1) := by decide +kernel
theorem dX1_addMultiple_11 : decode cX1_addMultiple 11 = .ok (.iload_n 3, 1) := by decide +kernel
theorem dX1_addMultiple_12 : decode cX1_addMultiple 12 = .ok (.iaload, 1) := by decide +kernel
theorem dX1_addMultiple_13 : decode cX1_addMultiple 13 = .ok (.i2l, 1) := by decide +kernel
theorem dX1_addMultiple_14 : decode cX1_addMultiple 14 = .ok (.aload_n 1, 1) := by decide +kernel
theorem dX1_addMultiple_15 : decode cX1_addMultiple 15 = .ok (.iload_n 3, 1) := by decide +kernel
theorem dX1_addMultiple_16 : decode cX1_addMultiple 16 = .ok (.iaload, 1) := by decide +kernel
theorem dX1_addMultiple_17 : decode cX1_addMultiple 17 = .ok (.i2l, 1) := by decide +kernel
theorem dX1_addMultiple_18 : decode cX1_addMultiple 18 = .ok (.iload_n 2, 1) := by decide +kernel
theorem dX1_addMultiple_19 : decode cX1_addMultiple 19 = .ok (.i2l, 1) := by decide +kernel
theorem dX1_addMultiple_20 : decode cX1_addMultiple 20 = .ok (.lmul, 1) := by decide +kernel
theorem dX1_addMultiple_21 : decode cX1_addMultiple 21 = .ok (.ladd, 1) := by decide +kernel
theorem dX1_addMultiple_22 : decode cX1_addMultiple 22 = .ok (.ldc2_w 54, 3) := by decide +kernel
theorem dX1_addMultiple_25 : decode cX1_addMultiple 25 = .ok (.lrem, 1) := by decide +kernel
theorem dX1_addMultiple_26 : decode cX1_addMultiple 26 = .ok (.l2i, 1) := by decide +kernel
theorem dX1_addMultiple_27 : decode cX1_addMultiple 27 = .ok (.iastore, 1) := by decide +kernel
theorem dX1_addMultiple_28 : decode cX1_addMultiple 28 = .ok (.iinc 3 1, 3) := by decide +kernel
theorem dX1_addMultiple_31 : decode cX1_addMultiple 31 = .ok (.goto (-29), 3) := by decide +kernel
theorem dX1_addMultiple_34 : decode cX1_addMultiple 34 = .ok (.return_, 1) := by decide +kernel
theorem dX1_makeX_0 : decode cX1_makeX 0 = .ok (.aload_n 0, 1) := by decide +kernel
theorem dX1_makeX_1 : decode cX1_makeX 1 = .ok (.iconst 0, 1) := by decide +kernel
theorem dX1_makeX_2 : decode cX1_makeX 2 = .ok (.invokestatic 62, 3) := by decide +kernel
theorem dX1_makeX_5 : decode cX1_makeX 5 = .ok (.aload_n 0, 1) := by decide +kernel
theorem dX1_makeX_6 : decode cX1_makeX 6 = .ok (.iconst 1, 1) := by decide +kernel
theorem dX1_makeX_7 : decode cX1_makeX 7 = .ok (.iconst 1, 1) := by decide +kernel
theorem dX1_makeX_8 : decode cX1_makeX 8 = .ok (.iastore, 1) := by decide +kernel
theorem dX1_makeX_9 : decode cX1_makeX 9 = .ok (.return_, 1) := by decide +kernel
theorem dX1_act_0 : decode cX1_act 0 = .ok (.aload_n 3, 1) := by decide +kernel
theorem dX1_act_1 : decode cX1_act 1 = .ok (.iconst 0, 1) := by decide +kernel
theorem dX1_act_2 : decode cX1_act 2 = .ok (.invokestatic 62, 3) := by decide +kernel
theorem dX1_act_5 : decode cX1_act 5 = .ok (.iconst 2, 1) := by decide +kernel
theorem dX1_act_6 : decode cX1_act 6 = .ok (.istore 4, 2) := by decide +kernel
theorem dX1_act_8 : decode cX1_act 8 = .ok (.iload 4, 2) := by decide +kernel
theorem dX1_act_10 : decode cX1_act 10 = .ok (.iload_n 2, 1) := by decide +kernel
theorem dX1_act_11 : decode cX1_act 11 = .ok (.if_icmp .gt 68, 3) := by decide +kernel
theorem dX1_act_14 : decode cX1_act 14 = .ok (.lconst 0, 1) := by decide +kernel
theorem dX1_act_15 : decode cX1_act 15 = .ok (.lstore 5, 2) := by decide +kernel
theorem dX1_act_17 : decode cX1_act 17 = .ok (.iconst 2, 1) := by decide +kernel
theorem dX1_act_18 : decode cX1_act 18 = .ok (.istore 7, 2) := by decide +kernel
theorem dX1_act_20 : decode cX1_act 20 = .ok (.iload 7, 2) := by decide +kernel
theorem dX1_act_22 : decode cX1_act 22 = .ok (.iload 4, 2) := by decide +kernel
theorem dX1_act_24 : decode cX1_act 24 = .ok (.if_icmp .gt 38, 3) := by decide +kernel
theorem dX1_act_27 : decode cX1_act 27 = .ok (.iload 4, 2) := by decide +kernel
theorem dX1_act_29 : decode cX1_act 29 = .ok (.iload 7, 2) := by decide +kernel
theorem dX1_act_31 : decode cX1_act 31 = .ok (.isub, 1) := by decide +kernel
theorem dX1_act_32 : decode cX1_act 32 = .ok (.iconst 1, 1) := by decide +kernel
theorem dX1_act_33 : decode cX1_act 33 = .ok (.iadd, 1) := by decide +kernel
theorem dX1_act_34 : decode cX1_act 34 = .ok (.istore 8, 2) := by decide +kernel
theorem dX1_act_36 : decode cX1_act 36 = .ok (.lload 5, 2) := by decide +kernel
theorem dX1_act_38 : decode cX1_act 38 = .ok (.aload_n 0, 1) := by decide +kernel
theorem dX1_act_39 : decode cX1_act 39 = .ok (.iload 7, 2) := by decide +kernel
theorem dX1_act_41 : decode cX1_act 41 = .ok (.iaload, 1) := by decide +kernel
theorem dX1_act_42 : decode cX1_act 42 = .ok (.i2l, 1) := by decide +kernel
theorem dX1_act_43 : decode cX1_act 43 = .ok (.aload_n 1, 1) := by decide +kernel
theorem dX1_act_44 : decode cX1_act 44 = .ok (.iload 8, 2) := by decide +kernel
theorem dX1_act_46 : decode cX1_act 46 = .ok (.iaload, 1) := by decide +kernel
theorem dX1_act_47 : decode cX1_act 47 = .ok (.i2l, 1) := by decide +kernel
theorem dX1_act_48 : decode cX1_act 48 = .ok (.lmul, 1) := by decide +kernel
theorem dX1_act_49 : decode cX1_act 49 = .ok (.iload 8, 2) := by decide +kernel
theorem dX1_act_51 : decode cX1_act 51 = .ok (.i2l, 1) := by decide +kernel
theorem dX1_act_52 : decode cX1_act 52 = .ok (.lmul, 1) := by decide +kernel
theorem dX1_act_53 : decode cX1_act 53 = .ok (.ladd, 1) := by decide +kernel
theorem dX1_act_54 : decode cX1_act 54 = .ok (.lstore 5, 2) := by decide +kernel
theorem dX1_act_56 : decode cX1_act 56 = .ok (.iinc 7 1, 3) := by decide +kernel
theorem dX1_act_59 : decode cX1_act 59 = .ok (.goto (-39), 3) := by decide +kernel
theorem dX1_act_62 : decode cX1_act 62 = .ok (.aload_n 3, 1) := by decide +kernel
theorem dX1_act_63 : decode cX1_act 63 = .ok (.iload 4, 2) := by decide +kernel
theorem dX1_act_65 : decode cX1_act 65 = .ok (.lload 5, 2) := by decide +kernel
theorem dX1_act_67 : decode cX1_act 67 = .ok (.ldc2_w 54, 3) := by decide +kernel
theorem dX1_act_70 : decode cX1_act 70 = .ok (.lrem, 1) := by decide +kernel
theorem dX1_act_71 : decode cX1_act 71 = .ok (.l2i, 1) := by decide +kernel
theorem dX1_act_72 : decode cX1_act 72 = .ok (.iastore, 1) := by decide +kernel
theorem dX1_act_73 : decode cX1_act 73 = .ok (.iinc 4 1, 3) := by decide +kernel
theorem dX1_act_76 : decode cX1_act 76 = .ok (.goto (-68), 3) := by decide +kernel
theorem dX1_act_79 : decode cX1_act 79 = .ok (.return_, 1) := by decide +kernel
theorem dX1_multiply_0 : decode cX1_multiply 0 = .ok (.iconst 0, 1) := by decide +kernel
theorem dX1_multiply_1 : decode cX1_multiply 1 = .ok (.istore 4, 2) := by decide +kernel
theorem dX1_multiply_3 : decode cX1_multiply 3 = .ok (.iload 4, 2) := by decide +kernel
theorem dX1_multiply_5 : decode cX1_multiply 5 = .ok (.iload_n 2, 1) := by decide +kernel
theorem dX1_multiply_6 : decode cX1_multiply 6 = .ok (.if_icmp .gt 58, 3) := by decide +kernel
theorem dX1_multiply_9 : decode cX1_multiply 9 = .ok (.lconst 0, 1) := by decide +kernel
theorem dX1_multiply_10 : decode cX1_multiply 10 = .ok (.lstore 5, 2) := by decide +kernel
theorem dX1_multiply_12 : decode cX1_multiply 12 = .ok (.iconst 0, 1) := by decide +kernel
theorem dX1_multiply_13 : decode cX1_multiply 13 = .ok (.istore 7, 2) := by decide +kernel
theorem dX1_multiply_15 : decode cX1_multiply 15 = .ok (.iload 7, 2) := by decide +kernel
theorem dX1_multiply_17 : decode cX1_multiply 17 = .ok (.iload 4, 2) := by decide +kernel
theorem dX1_multiply_19 : decode cX1_multiply 19 = .ok (.if_icmp .gt 28, 3) := by decide +kernel
theorem dX1_multiply_22 : decode cX1_multiply 22 = .ok (.lload 5, 2) := by decide +kernel
theorem dX1_multiply_24 : decode cX1_multiply 24 = .ok (.aload_n 0, 1) := by decide +kernel
theorem dX1_multiply_25 : decode cX1_multiply 25 = .ok (.iload 7, 2) := by decide +kernel
theorem dX1_multiply_27 : decode cX1_multiply 27 = .ok (.iaload, 1) := by decide +kernel
theorem dX1_multiply_28 : decode cX1_multiply 28 = .ok (.i2l, 1) := by decide +kernel
theorem dX1_multiply_29 : decode cX1_multiply 29 = .ok (.aload_n 1, 1) := by decide +kernel
theorem dX1_multiply_30 : decode cX1_multiply 30 = .ok (.iload 4, 2) := by decide +kernel
theorem dX1_multiply_32 : decode cX1_multiply 32 = .ok (.iload 7, 2) := by decide +kernel
theorem dX1_multiply_34 : decode cX1_multiply 34 = .ok (.isub, 1) := by decide +kernel
theorem dX1_multiply_35 : decode cX1_multiply 35 = .ok (.iaload, 1) := by decide +kernel
theorem dX1_multiply_36 : decode cX1_multiply 36 = .ok (.i2l, 1) := by decide +kernel
theorem dX1_multiply_37 : decode cX1_multiply 37 = .ok (.lmul, 1) := by decide +kernel
theorem dX1_multiply_38 : decode cX1_multiply 38 = .ok (.ladd, 1) := by decide +kernel
theorem dX1_multiply_39 : decode cX1_multiply 39 = .ok (.lstore 5, 2) := by decide +kernel
theorem dX1_multiply_41 : decode cX1_multiply 41 = .ok (.iinc 7 1, 3) := by decide +kernel
theorem dX1_multiply_44 : decode cX1_multiply 44 = .ok (.goto (-29), 3) := by decide +kernel
theorem dX1_multiply_47 : decode cX1_multiply 47 = .ok (.aload_n 3, 1) := by decide +kernel
theorem dX1_multiply_48 : decode cX1_multiply 48 = .ok (.iload 4, 2) := by decide +kernel
theorem dX1_multiply_50 : decode cX1_multiply 50 = .ok (.lload 5, 2) := by decide +kernel
theorem dX1_multiply_52 : decode cX1_multiply 52 = .ok (.ldc2_w 54, 3) := by decide +kernel
theorem dX1_multiply_55 : decode cX1_multiply 55 = .ok (.lrem, 1) := by decide +kernel
theorem dX1_multiply_56 : decode cX1_multiply 56 = .ok (.l2i, 1) := by decide +kernel
theorem dX1_multiply_57 : decode cX1_multiply 57 = .ok (.iastore, 1) := by decide +kernel
theorem dX1_multiply_58 : decode cX1_multiply 58 = .ok (.iinc 4 1, 3) := by decide +kernel
theorem dX1_multiply_61 : decode cX1_multiply 61 = .ok (.goto (-58), 3) := by decide +kernel
theorem dX1_multiply_64 : decode cX1_multiply 64 = .ok (.return_, 1) := by decide +kernel
theorem dX1_takeBracket_0 : decode cX1_takeBracket 0 = .ok (.aload_n 1, 1) := by decide +kernel
theorem dX1_takeBracket_1 : decode cX1_takeBracket 1 = .ok (.aload_n 2, 1) := by decide +kernel
theorem dX1_takeBracket_2 : decode cX1_takeBracket 2 = .ok (.iload_n 3, 1) := by decide +kernel
theorem dX1_takeBracket_3 : decode cX1_takeBracket 3 = .ok (.aload 4, 2) := by decide +kernel
theorem dX1_takeBracket_5 : decode cX1_takeBracket 5 = .ok (.invokestatic 68, 3) := by decide +kernel
theorem dX1_takeBracket_8 : decode cX1_takeBracket 8 = .ok (.aload_n 2, 1) := by decide +kernel
theorem dX1_takeBracket_9 : decode cX1_takeBracket 9 = .ok (.aload_n 1, 1) := by decide +kernel
theorem dX1_takeBracket_10 : decode cX1_takeBracket 10 = .ok (.iload_n 3, 1) := by decide +kernel
theorem dX1_takeBracket_11 : decode cX1_takeBracket 11 = .ok (.aload_n 0, 1) := by decide +kernel
theorem dX1_takeBracket_12 : decode cX1_takeBracket 12 = .ok (.getfield 9, 3) := by decide +kernel
theorem dX1_takeBracket_15 : decode cX1_takeBracket 15 = .ok (.invokestatic 68, 3) := by decide +kernel
theorem dX1_takeBracket_18 : decode cX1_takeBracket 18 = .ok (.aload 4, 2) := by decide +kernel
theorem dX1_takeBracket_20 : decode cX1_takeBracket 20 = .ok (.aload_n 0, 1) := by decide +kernel
theorem dX1_takeBracket_21 : decode cX1_takeBracket 21 = .ok (.getfield 9, 3) := by decide +kernel
theorem dX1_takeBracket_24 : decode cX1_takeBracket 24 = .ok (.sipush 10006, 3) := by decide +kernel
theorem dX1_takeBracket_27 : decode cX1_takeBracket 27 = .ok (.invokestatic 72, 3) := by decide +kernel
theorem dX1_takeBracket_30 : decode cX1_takeBracket 30 = .ok (.return_, 1) := by decide +kernel
theorem dX1_exponential_0 : decode cX1_exponential 0 = .ok (.aload_n 3, 1) := by decide +kernel
theorem dX1_exponential_1 : decode cX1_exponential 1 = .ok (.invokestatic 76, 3) := by decide +kernel
theorem dX1_exponential_4 : decode cX1_exponential 4 = .ok (.aload_n 0, 1) := by decide +kernel
theorem dX1_exponential_5 : decode cX1_exponential 5 = .ok (.getfield 15, 3) := by decide +kernel
theorem dX1_exponential_8 : decode cX1_exponential 8 = .ok (.invokestatic 76, 3) := by decide +kernel
theorem dX1_exponential_11 : decode cX1_exponential 11 = .ok (.iconst 1, 1) := by decide +kernel
theorem dX1_exponential_12 : decode cX1_exponential 12 = .ok (.istore 4, 2) := by decide +kernel
theorem dX1_exponential_14 : decode cX1_exponential 14 = .ok (.iload 4, 2) := by decide +kernel
theorem dX1_exponential_16 : decode cX1_exponential 16 = .ok (.iload_n 2, 1) := by decide +kernel
theorem dX1_exponential_17 : decode cX1_exponential 17 = .ok (.if_icmp .ge 57, 3) := by decide +kernel
theorem dX1_exponential_20 : decode cX1_exponential 20 = .ok (.iload 4, 2) := by decide +kernel
theorem dX1_exponential_22 : decode cX1_exponential 22 = .ok (.getstatic 80, 3) := by decide +kernel
theorem dX1_exponential_25 : decode cX1_exponential 25 = .ok (.arraylength, 1) := by decide +kernel
theorem dX1_exponential_26 : decode cX1_exponential 26 = .ok (.if_icmp .ge 48, 3) := by decide +kernel
theorem dX1_exponential_29 : decode cX1_exponential 29 = .ok (.aload_n 1, 1) := by decide +kernel
theorem dX1_exponential_30 : decode cX1_exponential 30 = .ok (.aload_n 0, 1) := by decide +kernel
theorem dX1_exponential_31 : decode cX1_exponential 31 = .ok (.getfield 15, 3) := by decide +kernel
theorem dX1_exponential_34 : decode cX1_exponential 34 = .ok (.iload_n 2, 1) := by decide +kernel
theorem dX1_exponential_35 : decode cX1_exponential 35 = .ok (.aload_n 0, 1) := by decide +kernel
theorem dX1_exponential_36 : decode cX1_exponential 36 = .ok (.getfield 18, 3) := by decide +kernel
theorem dX1_exponential_39 : decode cX1_exponential 39 = .ok (.invokestatic 68, 3) := by decide +kernel
theorem dX1_exponential_42 : decode cX1_exponential 42 = .ok (.aload_n 0, 1) := by decide +kernel
theorem dX1_exponential_43 : decode cX1_exponential 43 = .ok (.getfield 18, 3) := by decide +kernel
theorem dX1_exponential_46 : decode cX1_exponential 46 = .ok (.getstatic 80, 3) := by decide +kernel
theorem dX1_exponential_49 : decode cX1_exponential 49 = .ok (.iload 4, 2) := by decide +kernel
theorem dX1_exponential_51 : decode cX1_exponential 51 = .ok (.iaload, 1) := by decide +kernel
theorem dX1_exponential_52 : decode cX1_exponential 52 = .ok (.aload_n 0, 1) := by decide +kernel
theorem dX1_exponential_53 : decode cX1_exponential 53 = .ok (.getfield 15, 3) := by decide +kernel
theorem dX1_exponential_56 : decode cX1_exponential 56 = .ok (.invokestatic 83, 3) := by decide +kernel
theorem dX1_exponential_59 : decode cX1_exponential 59 = .ok (.aload_n 3, 1) := by decide +kernel
theorem dX1_exponential_60 : decode cX1_exponential 60 = .ok (.aload_n 0, 1) := by decide +kernel
theorem dX1_exponential_61 : decode cX1_exponential 61 = .ok (.getfield 15, 3) := by decide +kernel
theorem dX1_exponential_64 : decode cX1_exponential 64 = .ok (.iconst 1, 1) := by decide +kernel
theorem dX1_exponential_65 : decode cX1_exponential 65 = .ok (.invokestatic 72, 3) := by decide +kernel
theorem dX1_exponential_68 : decode cX1_exponential 68 = .ok (.iinc 4 1, 3) := by decide +kernel
theorem dX1_exponential_71 : decode cX1_exponential 71 = .ok (.goto (-57), 3) := by decide +kernel
theorem dX1_exponential_74 : decode cX1_exponential 74 = .ok (.return_, 1) := by decide +kernel
theorem dX1_substitute_0 : decode cX1_substitute 0 = .ok (.aload 4, 2) := by decide +kernel
theorem dX1_substitute_2 : decode cX1_substitute 2 = .ok (.iconst 0, 1) := by decide +kernel
theorem dX1_substitute_3 : decode cX1_substitute 3 = .ok (.invokestatic 62, 3) := by decide +kernel
theorem dX1_substitute_6 : decode cX1_substitute 6 = .ok (.iload_n 3, 1) := by decide +kernel
theorem dX1_substitute_7 : decode cX1_substitute 7 = .ok (.istore 5, 2) := by decide +kernel
theorem dX1_substitute_9 : decode cX1_substitute 9 = .ok (.iload 5, 2) := by decide +kernel
theorem dX1_substitute_11 : decode cX1_substitute 11 = .ok (.ifCond .lt 55, 3) := by decide +kernel
theorem dX1_substitute_14 : decode cX1_substitute 14 = .ok (.aload 4, 2) := by decide +kernel
theorem dX1_substitute_16 : decode cX1_substitute 16 = .ok (.aload_n 1, 1) := by decide +kernel
theorem dX1_substitute_17 : decode cX1_substitute 17 = .ok (.iload_n 3, 1) := by decide +kernel
theorem dX1_substitute_18 : decode cX1_substitute 18 = .ok (.aload_n 0, 1) := by decide +kernel
theorem dX1_substitute_19 : decode cX1_substitute 19 = .ok (.getfield 21, 3) := by decide +kernel
theorem dX1_substitute_22 : decode cX1_substitute 22 = .ok (.invokestatic 87, 3) := by decide +kernel
theorem dX1_substitute_25 : decode cX1_substitute 25 = .ok (.aload_n 0, 1) := by decide +kernel
theorem dX1_substitute_26 : decode cX1_substitute 26 = .ok (.getfield 21, 3) := by decide +kernel
theorem dX1_substitute_29 : decode cX1_substitute 29 = .ok (.iconst 0, 1) := by decide +kernel
theorem dX1_substitute_30 : decode cX1_substitute 30 = .ok (.aload_n 0, 1) := by decide +kernel
theorem dX1_substitute_31 : decode cX1_substitute 31 = .ok (.getfield 21, 3) := by decide +kernel
theorem dX1_substitute_34 : decode cX1_substitute 34 = .ok (.iconst 0, 1) := by decide +kernel
theorem dX1_substitute_35 : decode cX1_substitute 35 = .ok (.iaload, 1) := by decide +kernel
theorem dX1_substitute_36 : decode cX1_substitute 36 = .ok (.aload_n 2, 1) := by decide +kernel
theorem dX1_substitute_37 : decode cX1_substitute 37 = .ok (.iload 5, 2) := by decide +kernel
theorem dX1_substitute_39 : decode cX1_substitute 39 = .ok (.iaload, 1) := by decide +kernel
theorem dX1_substitute_40 : decode cX1_substitute 40 = .ok (.iadd, 1) := by decide +kernel
theorem dX1_substitute_41 : decode cX1_substitute 41 = .ok (.sipush 10007, 3) := by decide +kernel
theorem dX1_substitute_44 : decode cX1_substitute 44 = .ok (.irem, 1) := by decide +kernel
theorem dX1_substitute_45 : decode cX1_substitute 45 = .ok (.iastore, 1) := by decide +kernel
theorem dX1_substitute_46 : decode cX1_substitute 46 = .ok (.aload_n 0, 1) := by decide +kernel
theorem dX1_substitute_47 : decode cX1_substitute 47 = .ok (.getfield 21, 3) := by decide +kernel
theorem dX1_substitute_50 : decode cX1_substitute 50 = .ok (.iconst 0, 1) := by decide +kernel
theorem dX1_substitute_51 : decode cX1_substitute 51 = .ok (.aload 4, 2) := by decide +kernel
theorem dX1_substitute_53 : decode cX1_substitute 53 = .ok (.iconst 0, 1) := by decide +kernel
theorem dX1_substitute_54 : decode cX1_substitute 54 = .ok (.iload_n 3, 1) := by decide +kernel
theorem dX1_substitute_55 : decode cX1_substitute 55 = .ok (.iconst 1, 1) := by decide +kernel
theorem dX1_substitute_56 : decode cX1_substitute 56 = .ok (.iadd, 1) := by decide +kernel
theorem dX1_substitute_57 : decode cX1_substitute 57 = .ok (.invokestatic 90, 3) := by decide +kernel
theorem dX1_substitute_60 : decode cX1_substitute 60 = .ok (.iinc 5 (-1), 3) := by decide +kernel
theorem dX1_substitute_63 : decode cX1_substitute 63 = .ok (.goto (-54), 3) := by decide +kernel
theorem dX1_substitute_66 : decode cX1_substitute 66 = .ok (.return_, 1) := by decide +kernel
theorem dX1_inverse_0 : decode cX1_inverse 0 = .ok (.aload_n 3, 1) := by decide +kernel
theorem dX1_inverse_1 : decode cX1_inverse 1 = .ok (.invokestatic 76, 3) := by decide +kernel
theorem dX1_inverse_4 : decode cX1_inverse 4 = .ok (.iconst 2, 1) := by decide +kernel
theorem dX1_inverse_5 : decode cX1_inverse 5 = .ok (.istore 4, 2) := by decide +kernel
theorem dX1_inverse_7 : decode cX1_inverse 7 = .ok (.iload 4, 2) := by decide +kernel
theorem dX1_inverse_9 : decode cX1_inverse 9 = .ok (.iload_n 2, 1) := by decide +kernel
theorem dX1_inverse_10 : decode cX1_inverse 10 = .ok (.if_icmp .gt 40, 3) := by decide +kernel
theorem dX1_inverse_13 : decode cX1_inverse 13 = .ok (.aload_n 0, 1) := by decide +kernel
theorem dX1_inverse_14 : decode cX1_inverse 14 = .ok (.aload_n 1, 1) := by decide +kernel
theorem dX1_inverse_15 : decode cX1_inverse 15 = .ok (.aload_n 3, 1) := by decide +kernel
theorem dX1_inverse_16 : decode cX1_inverse 16 = .ok (.iload 4, 2) := by decide +kernel
theorem dX1_inverse_18 : decode cX1_inverse 18 = .ok (.aload_n 0, 1) := by decide +kernel
theorem dX1_inverse_19 : decode cX1_inverse 19 = .ok (.getfield 24, 3) := by decide +kernel
theorem dX1_inverse_22 : decode cX1_inverse 22 = .ok (.invokevirtual 96, 3) := by decide +kernel
theorem dX1_inverse_25 : decode cX1_inverse 25 = .ok (.aload_n 3, 1) := by decide +kernel
theorem dX1_inverse_26 : decode cX1_inverse 26 = .ok (.iload 4, 2) := by decide +kernel
theorem dX1_inverse_28 : decode cX1_inverse 28 = .ok (.sipush 10007, 3) := by decide +kernel
theorem dX1_inverse_31 : decode cX1_inverse 31 = .ok (.aload_n 0, 1) := by decide +kernel
theorem dX1_inverse_32 : decode cX1_inverse 32 = .ok (.getfield 24, 3) := by decide +kernel
theorem dX1_inverse_35 : decode cX1_inverse 35 = .ok (.iload 4, 2) := by decide +kernel
theorem dX1_inverse_37 : decode cX1_inverse 37 = .ok (.iaload, 1) := by decide +kernel
theorem dX1_inverse_38 : decode cX1_inverse 38 = .ok (.isub, 1) := by decide +kernel
theorem dX1_inverse_39 : decode cX1_inverse 39 = .ok (.sipush 10007, 3) := by decide +kernel
theorem dX1_inverse_42 : decode cX1_inverse 42 = .ok (.irem, 1) := by decide +kernel
theorem dX1_inverse_43 : decode cX1_inverse 43 = .ok (.iastore, 1) := by decide +kernel
theorem dX1_inverse_44 : decode cX1_inverse 44 = .ok (.iinc 4 1, 3) := by decide +kernel
theorem dX1_inverse_47 : decode cX1_inverse 47 = .ok (.goto (-40), 3) := by decide +kernel
theorem dX1_inverse_50 : decode cX1_inverse 50 = .ok (.return_, 1) := by decide +kernel
theorem dX1_logarithm_0 : decode cX1_logarithm 0 = .ok (.aload_n 3, 1) := by decide +kernel
theorem dX1_logarithm_1 : decode cX1_logarithm 1 = .ok (.iconst 0, 1) := by decide +kernel
theorem dX1_logarithm_2 : decode cX1_logarithm 2 = .ok (.invokestatic 62, 3) := by decide +kernel
theorem dX1_logarithm_5 : decode cX1_logarithm 5 = .ok (.iconst 2, 1) := by decide +kernel
theorem dX1_logarithm_6 : decode cX1_logarithm 6 = .ok (.istore 4, 2) := by decide +kernel
theorem dX1_logarithm_8 : decode cX1_logarithm 8 = .ok (.iload 4, 2) := by decide +kernel
theorem dX1_logarithm_10 : decode cX1_logarithm 10 = .ok (.iload_n 2, 1) := by decide +kernel
theorem dX1_logarithm_11 : decode cX1_logarithm 11 = .ok (.if_icmp .gt 44, 3) := by decide +kernel
theorem dX1_logarithm_14 : decode cX1_logarithm 14 = .ok (.aload_n 0, 1) := by decide +kernel
theorem dX1_logarithm_15 : decode cX1_logarithm 15 = .ok (.aload_n 3, 1) := by decide +kernel
theorem dX1_logarithm_16 : decode cX1_logarithm 16 = .ok (.iload 4, 2) := by decide +kernel
theorem dX1_logarithm_18 : decode cX1_logarithm 18 = .ok (.aload_n 0, 1) := by decide +kernel
theorem dX1_logarithm_19 : decode cX1_logarithm 19 = .ok (.getfield 24, 3) := by decide +kernel
theorem dX1_logarithm_22 : decode cX1_logarithm 22 = .ok (.invokevirtual 99, 3) := by decide +kernel
theorem dX1_logarithm_25 : decode cX1_logarithm 25 = .ok (.aload_n 3, 1) := by decide +kernel
theorem dX1_logarithm_26 : decode cX1_logarithm 26 = .ok (.iload 4, 2) := by decide +kernel
theorem dX1_logarithm_28 : decode cX1_logarithm 28 = .ok (.aload_n 1, 1) := by decide +kernel
theorem dX1_logarithm_29 : decode cX1_logarithm 29 = .ok (.iload 4, 2) := by decide +kernel
theorem dX1_logarithm_31 : decode cX1_logarithm 31 = .ok (.iaload, 1) := by decide +kernel
theorem dX1_logarithm_32 : decode cX1_logarithm 32 = .ok (.sipush 10007, 3) := by decide +kernel
theorem dX1_logarithm_35 : decode cX1_logarithm 35 = .ok (.iadd, 1) := by decide +kernel
theorem dX1_logarithm_36 : decode cX1_logarithm 36 = .ok (.aload_n 0, 1) := by decide +kernel
theorem dX1_logarithm_37 : decode cX1_logarithm 37 = .ok (.getfield 24, 3) := by decide +kernel
theorem dX1_logarithm_40 : decode cX1_logarithm 40 = .ok (.iload 4, 2) := by decide +kernel
theorem dX1_logarithm_42 : decode cX1_logarithm 42 = .ok (.iaload, 1) := by decide +kernel
theorem dX1_logarithm_43 : decode cX1_logarithm 43 = .ok (.isub, 1) := by decide +kernel
theorem dX1_logarithm_44 : decode cX1_logarithm 44 = .ok (.sipush 10007, 3) := by decide +kernel
theorem dX1_logarithm_47 : decode cX1_logarithm 47 = .ok (.irem, 1) := by decide +kernel
theorem dX1_logarithm_48 : decode cX1_logarithm 48 = .ok (.iastore, 1) := by decide +kernel
theorem dX1_logarithm_49 : decode cX1_logarithm 49 = .ok (.iinc 4 1, 3) := by decide +kernel
theorem dX1_logarithm_52 : decode cX1_logarithm 52 = .ok (.goto (-44), 3) := by decide +kernel
theorem dX1_logarithm_55 : decode cX1_logarithm 55 = .ok (.return_, 1) := by decide +kernel
theorem dX1_repeatFlow_0 : decode cX1_repeatFlow 0 = .ok (.aload_n 0, 1) := by decide +kernel
theorem dX1_repeatFlow_1 : decode cX1_repeatFlow 1 = .ok (.aload_n 1, 1) := by decide +kernel
theorem dX1_repeatFlow_2 : decode cX1_repeatFlow 2 = .ok (.iload_n 3, 1) := by decide +kernel
theorem dX1_repeatFlow_3 : decode cX1_repeatFlow 3 = .ok (.aload_n 0, 1) := by decide +kernel
theorem dX1_repeatFlow_4 : decode cX1_repeatFlow 4 = .ok (.getfield 33, 3) := by decide +kernel
theorem dX1_repeatFlow_7 : decode cX1_repeatFlow 7 = .ok (.invokevirtual 102, 3) := by decide +kernel
theorem dX1_repeatFlow_10 : decode cX1_repeatFlow 10 = .ok (.aload_n 0, 1) := by decide +kernel
theorem dX1_repeatFlow_11 : decode cX1_repeatFlow 11 = .ok (.getfield 33, 3) := by decide +kernel
theorem dX1_repeatFlow_14 : decode cX1_repeatFlow 14 = .ok (.iload_n 2, 1) := by decide +kernel
theorem dX1_repeatFlow_15 : decode cX1_repeatFlow 15 = .ok (.aload_n 0, 1) := by decide +kernel
theorem dX1_repeatFlow_16 : decode cX1_repeatFlow 16 = .ok (.getfield 33, 3) := by decide +kernel
theorem dX1_repeatFlow_19 : decode cX1_repeatFlow 19 = .ok (.invokestatic 83, 3) := by decide +kernel
theorem dX1_repeatFlow_22 : decode cX1_repeatFlow 22 = .ok (.aload_n 0, 1) := by decide +kernel
theorem dX1_repeatFlow_23 : decode cX1_repeatFlow 23 = .ok (.aload_n 0, 1) := by decide +kernel
theorem dX1_repeatFlow_24 : decode cX1_repeatFlow 24 = .ok (.getfield 33, 3) := by decide +kernel
theorem dX1_repeatFlow_27 : decode cX1_repeatFlow 27 = .ok (.iload_n 3, 1) := by decide +kernel
theorem dX1_repeatFlow_28 : decode cX1_repeatFlow 28 = .ok (.aload 4, 2) := by decide +kernel
theorem dX1_repeatFlow_30 : decode cX1_repeatFlow 30 = .ok (.invokevirtual 99, 3) := by decide +kernel
theorem dX1_repeatFlow_33 : decode cX1_repeatFlow 33 = .ok (.return_, 1) := by decide +kernel
theorem dX1_pushField_0 : decode cX1_pushField 0 = .ok (.aload_n 0, 1) := by decide +kernel
theorem dX1_pushField_1 : decode cX1_pushField 1 = .ok (.aload_n 1, 1) := by decide +kernel
theorem dX1_pushField_2 : decode cX1_pushField 2 = .ok (.iload_n 3, 1) := by decide +kernel
theorem dX1_pushField_3 : decode cX1_pushField 3 = .ok (.aload_n 0, 1) := by decide +kernel
theorem dX1_pushField_4 : decode cX1_pushField 4 = .ok (.getfield 30, 3) := by decide +kernel
theorem dX1_pushField_7 : decode cX1_pushField 7 = .ok (.invokevirtual 105, 3) := by decide +kernel
theorem dX1_pushField_10 : decode cX1_pushField 10 = .ok (.aload_n 2, 1) := by decide +kernel
theorem dX1_pushField_11 : decode cX1_pushField 11 = .ok (.aload_n 1, 1) := by decide +kernel
theorem dX1_pushField_12 : decode cX1_pushField 12 = .ok (.iload_n 3, 1) := by decide +kernel
theorem dX1_pushField_13 : decode cX1_pushField 13 = .ok (.aload_n 0, 1) := by decide +kernel
theorem dX1_pushField_14 : decode cX1_pushField 14 = .ok (.getfield 27, 3) := by decide +kernel
theorem dX1_pushField_17 : decode cX1_pushField 17 = .ok (.invokestatic 68, 3) := by decide +kernel
theorem dX1_pushField_20 : decode cX1_pushField 20 = .ok (.aload_n 0, 1) := by decide +kernel
theorem dX1_pushField_21 : decode cX1_pushField 21 = .ok (.aload_n 0, 1) := by decide +kernel
theorem dX1_pushField_22 : decode cX1_pushField 22 = .ok (.getfield 30, 3) := by decide +kernel
theorem dX1_pushField_25 : decode cX1_pushField 25 = .ok (.aload_n 0, 1) := by decide +kernel
theorem dX1_pushField_26 : decode cX1_pushField 26 = .ok (.getfield 27, 3) := by decide +kernel
theorem dX1_pushField_29 : decode cX1_pushField 29 = .ok (.iload_n 3, 1) := by decide +kernel
theorem dX1_pushField_30 : decode cX1_pushField 30 = .ok (.aload 4, 2) := by decide +kernel
theorem dX1_pushField_32 : decode cX1_pushField 32 = .ok (.invokevirtual 96, 3) := by decide +kernel
theorem dX1_pushField_35 : decode cX1_pushField 35 = .ok (.return_, 1) := by decide +kernel
theorem dX1_secondWay_0 : decode cX1_secondWay 0 = .ok (.aload_n 1, 1) := by decide +kernel
theorem dX1_secondWay_1 : decode cX1_secondWay 1 = .ok (.aload_n 2, 1) := by decide +kernel
theorem dX1_secondWay_2 : decode cX1_secondWay 2 = .ok (.aload 5, 2) := by decide +kernel
theorem dX1_secondWay_4 : decode cX1_secondWay 4 = .ok (.invokestatic 108, 3) := by decide +kernel
theorem dX1_secondWay_7 : decode cX1_secondWay 7 = .ok (.iload_n 3, 1) := by decide +kernel
theorem dX1_secondWay_8 : decode cX1_secondWay 8 = .ok (.iconst 3, 1) := by decide +kernel
theorem dX1_secondWay_9 : decode cX1_secondWay 9 = .ok (.if_icmp .ge 4, 3) := by decide +kernel
theorem dX1_secondWay_12 : decode cX1_secondWay 12 = .ok (.return_, 1) := by decide +kernel
theorem dX1_secondWay_13 : decode cX1_secondWay 13 = .ok (.aload_n 0, 1) := by decide +kernel
theorem dX1_secondWay_14 : decode cX1_secondWay 14 = .ok (.aload_n 1, 1) := by decide +kernel
theorem dX1_secondWay_15 : decode cX1_secondWay 15 = .ok (.aload_n 2, 1) := by decide +kernel
theorem dX1_secondWay_16 : decode cX1_secondWay 16 = .ok (.iload 4, 2) := by decide +kernel
theorem dX1_secondWay_18 : decode cX1_secondWay 18 = .ok (.aload_n 0, 1) := by decide +kernel
theorem dX1_secondWay_19 : decode cX1_secondWay 19 = .ok (.getfield 36, 3) := by decide +kernel
theorem dX1_secondWay_22 : decode cX1_secondWay 22 = .ok (.invokevirtual 112, 3) := by decide +kernel
theorem dX1_secondWay_25 : decode cX1_secondWay 25 = .ok (.aload 5, 2) := by decide +kernel
theorem dX1_secondWay_27 : decode cX1_secondWay 27 = .ok (.aload_n 0, 1) := by decide +kernel
theorem dX1_secondWay_28 : decode cX1_secondWay 28 = .ok (.getfield 36, 3) := by decide +kernel
theorem dX1_secondWay_31 : decode cX1_secondWay 31 = .ok (.sipush 5004, 3) := by decide +kernel
theorem dX1_secondWay_34 : decode cX1_secondWay 34 = .ok (.invokestatic 72, 3) := by decide +kernel
theorem dX1_secondWay_37 : decode cX1_secondWay 37 = .ok (.iload_n 3, 1) := by decide +kernel
theorem dX1_secondWay_38 : decode cX1_secondWay 38 = .ok (.iconst 4, 1) := by decide +kernel
theorem dX1_secondWay_39 : decode cX1_secondWay 39 = .ok (.if_icmp .ge 4, 3) := by decide +kernel
theorem dX1_secondWay_42 : decode cX1_secondWay 42 = .ok (.return_, 1) := by decide +kernel
theorem dX1_secondWay_43 : decode cX1_secondWay 43 = .ok (.aload_n 0, 1) := by decide +kernel
theorem dX1_secondWay_44 : decode cX1_secondWay 44 = .ok (.aload_n 1, 1) := by decide +kernel
theorem dX1_secondWay_45 : decode cX1_secondWay 45 = .ok (.aload_n 0, 1) := by decide +kernel
theorem dX1_secondWay_46 : decode cX1_secondWay 46 = .ok (.getfield 36, 3) := by decide +kernel
theorem dX1_secondWay_49 : decode cX1_secondWay 49 = .ok (.iload 4, 2) := by decide +kernel
theorem dX1_secondWay_51 : decode cX1_secondWay 51 = .ok (.aload_n 0, 1) := by decide +kernel
theorem dX1_secondWay_52 : decode cX1_secondWay 52 = .ok (.getfield 39, 3) := by decide +kernel
theorem dX1_secondWay_55 : decode cX1_secondWay 55 = .ok (.invokevirtual 112, 3) := by decide +kernel
theorem dX1_secondWay_58 : decode cX1_secondWay 58 = .ok (.aload_n 0, 1) := by decide +kernel
theorem dX1_secondWay_59 : decode cX1_secondWay 59 = .ok (.aload_n 2, 1) := by decide +kernel
theorem dX1_secondWay_60 : decode cX1_secondWay 60 = .ok (.aload_n 0, 1) := by decide +kernel
theorem dX1_secondWay_61 : decode cX1_secondWay 61 = .ok (.getfield 36, 3) := by decide +kernel
theorem dX1_secondWay_64 : decode cX1_secondWay 64 = .ok (.iload 4, 2) := by decide +kernel
theorem dX1_secondWay_66 : decode cX1_secondWay 66 = .ok (.aload_n 0, 1) := by decide +kernel
theorem dX1_secondWay_67 : decode cX1_secondWay 67 = .ok (.getfield 42, 3) := by decide +kernel
theorem dX1_secondWay_70 : decode cX1_secondWay 70 = .ok (.invokevirtual 112, 3) := by decide +kernel
theorem dX1_secondWay_73 : decode cX1_secondWay 73 = .ok (.aload 5, 2) := by decide +kernel
theorem dX1_secondWay_75 : decode cX1_secondWay 75 = .ok (.aload_n 0, 1) := by decide +kernel
theorem dX1_secondWay_76 : decode cX1_secondWay 76 = .ok (.getfield 39, 3) := by decide +kernel
theorem dX1_secondWay_79 : decode cX1_secondWay 79 = .ok (.sipush 834, 3) := by decide +kernel
theorem dX1_secondWay_82 : decode cX1_secondWay 82 = .ok (.invokestatic 72, 3) := by decide +kernel
theorem dX1_secondWay_85 : decode cX1_secondWay 85 = .ok (.aload 5, 2) := by decide +kernel
theorem dX1_secondWay_87 : decode cX1_secondWay 87 = .ok (.aload_n 0, 1) := by decide +kernel
theorem dX1_secondWay_88 : decode cX1_secondWay 88 = .ok (.getfield 42, 3) := by decide +kernel
theorem dX1_secondWay_91 : decode cX1_secondWay 91 = .ok (.sipush 9173, 3) := by decide +kernel
theorem dX1_secondWay_94 : decode cX1_secondWay 94 = .ok (.invokestatic 72, 3) := by decide +kernel
theorem dX1_secondWay_97 : decode cX1_secondWay 97 = .ok (.iload_n 3, 1) := by decide +kernel
theorem dX1_secondWay_98 : decode cX1_secondWay 98 = .ok (.iconst 5, 1) := by decide +kernel
theorem dX1_secondWay_99 : decode cX1_secondWay 99 = .ok (.if_icmp .ge 4, 3) := by decide +kernel
theorem dX1_secondWay_102 : decode cX1_secondWay 102 = .ok (.return_, 1) := by decide +kernel
theorem dX1_secondWay_103 : decode cX1_secondWay 103 = .ok (.aload_n 0, 1) := by decide +kernel
theorem dX1_secondWay_104 : decode cX1_secondWay 104 = .ok (.aload_n 2, 1) := by decide +kernel
theorem dX1_secondWay_105 : decode cX1_secondWay 105 = .ok (.aload_n 0, 1) := by decide +kernel
theorem dX1_secondWay_106 : decode cX1_secondWay 106 = .ok (.getfield 39, 3) := by decide +kernel
theorem dX1_secondWay_109 : decode cX1_secondWay 109 = .ok (.iload 4, 2) := by decide +kernel
theorem dX1_secondWay_111 : decode cX1_secondWay 111 = .ok (.aload_n 0, 1) := by decide +kernel
theorem dX1_secondWay_112 : decode cX1_secondWay 112 = .ok (.getfield 42, 3) := by decide +kernel
theorem dX1_secondWay_115 : decode cX1_secondWay 115 = .ok (.invokevirtual 112, 3) := by decide +kernel
theorem dX1_secondWay_118 : decode cX1_secondWay 118 = .ok (.aload 5, 2) := by decide +kernel
theorem dX1_secondWay_120 : decode cX1_secondWay 120 = .ok (.aload_n 0, 1) := by decide +kernel
theorem dX1_secondWay_121 : decode cX1_secondWay 121 = .ok (.getfield 42, 3) := by decide +kernel
theorem dX1_secondWay_124 : decode cX1_secondWay 124 = .ok (.sipush 9590, 3) := by decide +kernel
theorem dX1_secondWay_127 : decode cX1_secondWay 127 = .ok (.invokestatic 72, 3) := by decide +kernel
theorem dX1_secondWay_130 : decode cX1_secondWay 130 = .ok (.return_, 1) := by decide +kernel
theorem dX2_init_0 : decode cX2_init 0 = .ok (.aload_n 0, 1) := by decide +kernel
theorem dX2_init_1 : decode cX2_init 1 = .ok (.invokespecial 3, 3) := by decide +kernel
theorem dX2_init_4 : decode cX2_init 4 = .ok (.aload_n 0, 1) := by decide +kernel
theorem dX2_init_5 : decode cX2_init 5 = .ok (.iconst 5, 1) := by decide +kernel
theorem dX2_init_6 : decode cX2_init 6 = .ok (.putfield 9, 3) := by decide +kernel
theorem dX2_init_9 : decode cX2_init 9 = .ok (.aload_n 0, 1) := by decide +kernel
theorem dX2_init_10 : decode cX2_init 10 = .ok (.bipush 6, 2) := by decide +kernel
theorem dX2_init_12 : decode cX2_init 12 = .ok (.bipush 7, 2) := by decide +kernel
theorem dX2_init_14 : decode cX2_init 14 = .ok (.multianewarray 15 2, 4) := by decide +kernel
theorem dX2_init_18 : decode cX2_init 18 = .ok (.putfield 17, 3) := by decide +kernel
theorem dX2_init_21 : decode cX2_init 21 = .ok (.aload_n 0, 1) := by decide +kernel
theorem dX2_init_22 : decode cX2_init 22 = .ok (.bipush 6, 2) := by decide +kernel
theorem dX2_init_24 : decode cX2_init 24 = .ok (.bipush 7, 2) := by decide +kernel
theorem dX2_init_26 : decode cX2_init 26 = .ok (.multianewarray 15 2, 4) := by decide +kernel
theorem dX2_init_30 : decode cX2_init 30 = .ok (.putfield 20, 3) := by decide +kernel
theorem dX2_init_33 : decode cX2_init 33 = .ok (.iconst 0, 1) := by decide +kernel
theorem dX2_init_34 : decode cX2_init 34 = .ok (.istore_n 1, 1) := by decide +kernel
theorem dX2_init_35 : decode cX2_init 35 = .ok (.iload_n 1, 1) := by decide +kernel
theorem dX2_init_36 : decode cX2_init 36 = .ok (.bipush 6, 2) := by decide +kernel
theorem dX2_init_38 : decode cX2_init 38 = .ok (.if_icmp .ge 18, 3) := by decide +kernel
theorem dX2_init_41 : decode cX2_init 41 = .ok (.aload_n 0, 1) := by decide +kernel
theorem dX2_init_42 : decode cX2_init 42 = .ok (.getfield 20, 3) := by decide +kernel
theorem dX2_init_45 : decode cX2_init 45 = .ok (.iload_n 1, 1) := by decide +kernel
theorem dX2_init_46 : decode cX2_init 46 = .ok (.aaload, 1) := by decide +kernel
theorem dX2_init_47 : decode cX2_init 47 = .ok (.iconst 1, 1) := by decide +kernel
theorem dX2_init_48 : decode cX2_init 48 = .ok (.iconst 1, 1) := by decide +kernel
theorem dX2_init_49 : decode cX2_init 49 = .ok (.iastore, 1) := by decide +kernel
theorem dX2_init_50 : decode cX2_init 50 = .ok (.iinc 1 1, 3) := by decide +kernel
theorem dX2_init_53 : decode cX2_init 53 = .ok (.goto (-18), 3) := by decide +kernel
theorem dX2_init_56 : decode cX2_init 56 = .ok (.return_, 1) := by decide +kernel
theorem dX2_copyFrom_0 : decode cX2_copyFrom 0 = .ok (.aload_n 0, 1) := by decide +kernel
theorem dX2_copyFrom_1 : decode cX2_copyFrom 1 = .ok (.aload_n 1, 1) := by decide +kernel
theorem dX2_copyFrom_2 : decode cX2_copyFrom 2 = .ok (.getfield 9, 3) := by decide +kernel
theorem dX2_copyFrom_5 : decode cX2_copyFrom 5 = .ok (.putfield 9, 3) := by decide +kernel
theorem dX2_copyFrom_8 : decode cX2_copyFrom 8 = .ok (.iconst 0, 1) := by decide +kernel
theorem dX2_copyFrom_9 : decode cX2_copyFrom 9 = .ok (.istore_n 2, 1) := by decide +kernel
theorem dX2_copyFrom_10 : decode cX2_copyFrom 10 = .ok (.iload_n 2, 1) := by decide +kernel
theorem dX2_copyFrom_11 : decode cX2_copyFrom 11 = .ok (.bipush 6, 2) := by decide +kernel
theorem dX2_copyFrom_13 : decode cX2_copyFrom 13 = .ok (.if_icmp .ge 47, 3) := by decide +kernel
theorem dX2_copyFrom_16 : decode cX2_copyFrom 16 = .ok (.aload_n 1, 1) := by decide +kernel
theorem dX2_copyFrom_17 : decode cX2_copyFrom 17 = .ok (.getfield 17, 3) := by decide +kernel
theorem dX2_copyFrom_20 : decode cX2_copyFrom 20 = .ok (.iload_n 2, 1) := by decide +kernel
theorem dX2_copyFrom_21 : decode cX2_copyFrom 21 = .ok (.aaload, 1) := by decide +kernel
theorem dX2_copyFrom_22 : decode cX2_copyFrom 22 = .ok (.iconst 0, 1) := by decide +kernel
theorem dX2_copyFrom_23 : decode cX2_copyFrom 23 = .ok (.aload_n 0, 1) := by decide +kernel
theorem dX2_copyFrom_24 : decode cX2_copyFrom 24 = .ok (.getfield 17, 3) := by decide +kernel
theorem dX2_copyFrom_27 : decode cX2_copyFrom 27 = .ok (.iload_n 2, 1) := by decide +kernel
theorem dX2_copyFrom_28 : decode cX2_copyFrom 28 = .ok (.aaload, 1) := by decide +kernel
theorem dX2_copyFrom_29 : decode cX2_copyFrom 29 = .ok (.iconst 0, 1) := by decide +kernel
theorem dX2_copyFrom_30 : decode cX2_copyFrom 30 = .ok (.bipush 7, 2) := by decide +kernel
theorem dX2_copyFrom_32 : decode cX2_copyFrom 32 = .ok (.invokestatic 23, 3) := by decide +kernel
theorem dX2_copyFrom_35 : decode cX2_copyFrom 35 = .ok (.aload_n 1, 1) := by decide +kernel
theorem dX2_copyFrom_36 : decode cX2_copyFrom 36 = .ok (.getfield 20, 3) := by decide +kernel
theorem dX2_copyFrom_39 : decode cX2_copyFrom 39 = .ok (.iload_n 2, 1) := by decide +kernel
theorem dX2_copyFrom_40 : decode cX2_copyFrom 40 = .ok (.aaload, 1) := by decide +kernel
theorem dX2_copyFrom_41 : decode cX2_copyFrom 41 = .ok (.iconst 0, 1) := by decide +kernel
theorem dX2_copyFrom_42 : decode cX2_copyFrom 42 = .ok (.aload_n 0, 1) := by decide +kernel
theorem dX2_copyFrom_43 : decode cX2_copyFrom 43 = .ok (.getfield 20, 3) := by decide +kernel
theorem dX2_copyFrom_46 : decode cX2_copyFrom 46 = .ok (.iload_n 2, 1) := by decide +kernel
theorem dX2_copyFrom_47 : decode cX2_copyFrom 47 = .ok (.aaload, 1) := by decide +kernel
theorem dX2_copyFrom_48 : decode cX2_copyFrom 48 = .ok (.iconst 0, 1) := by decide +kernel
theorem dX2_copyFrom_49 : decode cX2_copyFrom 49 = .ok (.bipush 7, 2) := by decide +kernel
theorem dX2_copyFrom_51 : decode cX2_copyFrom 51 = .ok (.invokestatic 23, 3) := by decide +kernel
theorem dX2_copyFrom_54 : decode cX2_copyFrom 54 = .ok (.iinc 2 1, 3) := by decide +kernel
theorem dX2_copyFrom_57 : decode cX2_copyFrom 57 = .ok (.goto (-47), 3) := by decide +kernel
theorem dX2_copyFrom_60 : decode cX2_copyFrom 60 = .ok (.return_, 1) := by decide +kernel
theorem dX2_cutAt_0 : decode cX2_cutAt 0 = .ok (.aload_n 0, 1) := by decide +kernel
theorem dX2_cutAt_1 : decode cX2_cutAt 1 = .ok (.iload_n 1, 1) := by decide +kernel
theorem dX2_cutAt_2 : decode cX2_cutAt 2 = .ok (.putfield 9, 3) := by decide +kernel
theorem dX2_cutAt_5 : decode cX2_cutAt 5 = .ok (.iconst 0, 1) := by decide +kernel
theorem dX2_cutAt_6 : decode cX2_cutAt 6 = .ok (.istore_n 2, 1) := by decide +kernel
theorem dX2_cutAt_7 : decode cX2_cutAt 7 = .ok (.iload_n 2, 1) := by decide +kernel
theorem dX2_cutAt_8 : decode cX2_cutAt 8 = .ok (.bipush 6, 2) := by decide +kernel
theorem dX2_cutAt_10 : decode cX2_cutAt 10 = .ok (.if_icmp .ge 43, 3) := by decide +kernel
theorem dX2_cutAt_13 : decode cX2_cutAt 13 = .ok (.iload_n 1, 1) := by decide +kernel
theorem dX2_cutAt_14 : decode cX2_cutAt 14 = .ok (.iconst 1, 1) := by decide +kernel
theorem dX2_cutAt_15 : decode cX2_cutAt 15 = .ok (.iadd, 1) := by decide +kernel
theorem dX2_cutAt_16 : decode cX2_cutAt 16 = .ok (.istore_n 3, 1) := by decide +kernel
theorem dX2_cutAt_17 : decode cX2_cutAt 17 = .ok (.iload_n 3, 1) := by decide +kernel
theorem dX2_cutAt_18 : decode cX2_cutAt 18 = .ok (.bipush 6, 2) := by decide +kernel
theorem dX2_cutAt_20 : decode cX2_cutAt 20 = .ok (.if_icmp .gt 27, 3) := by decide +kernel
theorem dX2_cutAt_23 : decode cX2_cutAt 23 = .ok (.aload_n 0, 1) := by decide +kernel
theorem dX2_cutAt_24 : decode cX2_cutAt 24 = .ok (.getfield 17, 3) := by decide +kernel
theorem dX2_cutAt_27 : decode cX2_cutAt 27 = .ok (.iload_n 2, 1) := by decide +kernel
theorem dX2_cutAt_28 : decode cX2_cutAt 28 = .ok (.aaload, 1) := by decide +kernel
theorem dX2_cutAt_29 : decode cX2_cutAt 29 = .ok (.iload_n 3, 1) := by decide +kernel
theorem dX2_cutAt_30 : decode cX2_cutAt 30 = .ok (.iconst 0, 1) := by decide +kernel
theorem dX2_cutAt_31 : decode cX2_cutAt 31 = .ok (.iastore, 1) := by decide +kernel
theorem dX2_cutAt_32 : decode cX2_cutAt 32 = .ok (.aload_n 0, 1) := by decide +kernel
theorem dX2_cutAt_33 : decode cX2_cutAt 33 = .ok (.getfield 20, 3) := by decide +kernel
theorem dX2_cutAt_36 : decode cX2_cutAt 36 = .ok (.iload_n 2, 1) := by decide +kernel
theorem dX2_cutAt_37 : decode cX2_cutAt 37 = .ok (.aaload, 1) := by decide +kernel
theorem dX2_cutAt_38 : decode cX2_cutAt 38 = .ok (.iload_n 3, 1) := by decide +kernel
theorem dX2_cutAt_39 : decode cX2_cutAt 39 = .ok (.iconst 0, 1) := by decide +kernel
theorem dX2_cutAt_40 : decode cX2_cutAt 40 = .ok (.iastore, 1) := by decide +kernel
theorem dX2_cutAt_41 : decode cX2_cutAt 41 = .ok (.iinc 3 1, 3) := by decide +kernel
theorem dX2_cutAt_44 : decode cX2_cutAt 44 = .ok (.goto (-27), 3) := by decide +kernel
theorem dX2_cutAt_47 : decode cX2_cutAt 47 = .ok (.iinc 2 1, 3) := by decide +kernel
theorem dX2_cutAt_50 : decode cX2_cutAt 50 = .ok (.goto (-43), 3) := by decide +kernel
theorem dX2_cutAt_53 : decode cX2_cutAt 53 = .ok (.return_, 1) := by decide +kernel
theorem dX2_fieldsThatAreNotZero_0 : decode cX2_fieldsThatAreNotZero 0 = .ok (.aload_n 0, 1) := by decide +kernel
theorem dX2_fieldsThatAreNotZero_1 : decode cX2_fieldsThatAreNotZero 1 = .ok (.getfield 17, 3) := by decide +kernel
theorem dX2_fieldsThatAreNotZero_4 : decode cX2_fieldsThatAreNotZero 4 = .ok (.invokestatic 29, 3) := by decide +kernel
theorem dX2_fieldsThatAreNotZero_7 : decode cX2_fieldsThatAreNotZero 7 = .ok (.ireturn, 1) := by decide +kernel
theorem dX2_flowsThatAreNotX_0 : decode cX2_flowsThatAreNotX 0 = .ok (.aload_n 0, 1) := by decide +kernel
theorem dX2_flowsThatAreNotX_1 : decode cX2_flowsThatAreNotX 1 = .ok (.getfield 20, 3) := by decide +kernel
theorem dX2_flowsThatAreNotX_4 : decode cX2_flowsThatAreNotX 4 = .ok (.invokestatic 29, 3) := by decide +kernel
theorem dX2_flowsThatAreNotX_7 : decode cX2_flowsThatAreNotX 7 = .ok (.ireturn, 1) := by decide +kernel
theorem dX2_rowsWithPowers_0 : decode cX2_rowsWithPowers 0 = .ok (.iconst 0, 1) := by decide +kernel
theorem dX2_rowsWithPowers_1 : decode cX2_rowsWithPowers 1 = .ok (.istore_n 1, 1) := by decide +kernel
theorem dX2_rowsWithPowers_2 : decode cX2_rowsWithPowers 2 = .ok (.iconst 0, 1) := by decide +kernel
theorem dX2_rowsWithPowers_3 : decode cX2_rowsWithPowers 3 = .ok (.istore_n 2, 1) := by decide +kernel
theorem dX2_rowsWithPowers_4 : decode cX2_rowsWithPowers 4 = .ok (.iload_n 2, 1) := by decide +kernel
theorem dX2_rowsWithPowers_5 : decode cX2_rowsWithPowers 5 = .ok (.bipush 6, 2) := by decide +kernel
theorem dX2_rowsWithPowers_7 : decode cX2_rowsWithPowers 7 = .ok (.if_icmp .ge 22, 3) := by decide +kernel
theorem dX2_rowsWithPowers_10 : decode cX2_rowsWithPowers 10 = .ok (.aload_n 0, 1) := by decide +kernel
theorem dX2_rowsWithPowers_11 : decode cX2_rowsWithPowers 11 = .ok (.iload_n 2, 1) := by decide +kernel
theorem dX2_rowsWithPowers_12 : decode cX2_rowsWithPowers 12 = .ok (.aaload, 1) := by decide +kernel
theorem dX2_rowsWithPowers_13 : decode cX2_rowsWithPowers 13 = .ok (.invokestatic 33, 3) := by decide +kernel
theorem dX2_rowsWithPowers_16 : decode cX2_rowsWithPowers 16 = .ok (.iconst (-1), 1) := by decide +kernel
theorem dX2_rowsWithPowers_17 : decode cX2_rowsWithPowers 17 = .ok (.if_icmp .eq 6, 3) := by decide +kernel
theorem dX2_rowsWithPowers_20 : decode cX2_rowsWithPowers 20 = .ok (.iinc 1 1, 3) := by decide +kernel
theorem dX2_rowsWithPowers_23 : decode cX2_rowsWithPowers 23 = .ok (.iinc 2 1, 3) := by decide +kernel
theorem dX2_rowsWithPowers_26 : decode cX2_rowsWithPowers 26 = .ok (.goto (-22), 3) := by decide +kernel
theorem dX2_rowsWithPowers_29 : decode cX2_rowsWithPowers 29 = .ok (.iload_n 1, 1) := by decide +kernel
theorem dX2_rowsWithPowers_30 : decode cX2_rowsWithPowers 30 = .ok (.ireturn, 1) := by decide +kernel
theorem dX3_init_0 : decode cX3_init 0 = .ok (.aload_n 0, 1) := by decide +kernel
theorem dX3_init_1 : decode cX3_init 1 = .ok (.invokespecial 3, 3) := by decide +kernel
theorem dX3_init_4 : decode cX3_init 4 = .ok (.aload_n 0, 1) := by decide +kernel
theorem dX3_init_5 : decode cX3_init 5 = .ok (.new 9, 3) := by decide +kernel
theorem dX3_init_8 : decode cX3_init 8 = .ok (.dup, 1) := by decide +kernel
theorem dX3_init_9 : decode cX3_init 9 = .ok (.invokespecial 11, 3) := by decide +kernel
theorem dX3_init_12 : decode cX3_init 12 = .ok (.putfield 12, 3) := by decide +kernel
theorem dX3_init_15 : decode cX3_init 15 = .ok (.aload_n 0, 1) := by decide +kernel
theorem dX3_init_16 : decode cX3_init 16 = .ok (.sipush 500, 3) := by decide +kernel
theorem dX3_init_19 : decode cX3_init 19 = .ok (.putfield 18, 3) := by decide +kernel
theorem dX3_init_22 : decode cX3_init 22 = .ok (.return_, 1) := by decide +kernel
theorem dX3_copyFrom_0 : decode cX3_copyFrom 0 = .ok (.aload_n 0, 1) := by decide +kernel
theorem dX3_copyFrom_1 : decode cX3_copyFrom 1 = .ok (.getfield 12, 3) := by decide +kernel
theorem dX3_copyFrom_4 : decode cX3_copyFrom 4 = .ok (.aload_n 1, 1) := by decide +kernel
theorem dX3_copyFrom_5 : decode cX3_copyFrom 5 = .ok (.getfield 12, 3) := by decide +kernel
theorem dX3_copyFrom_8 : decode cX3_copyFrom 8 = .ok (.invokevirtual 22, 3) := by decide +kernel
theorem dX3_copyFrom_11 : decode cX3_copyFrom 11 = .ok (.aload_n 0, 1) := by decide +kernel
theorem dX3_copyFrom_12 : decode cX3_copyFrom 12 = .ok (.aload_n 1, 1) := by decide +kernel
theorem dX3_copyFrom_13 : decode cX3_copyFrom 13 = .ok (.getfield 18, 3) := by decide +kernel
theorem dX3_copyFrom_16 : decode cX3_copyFrom 16 = .ok (.putfield 18, 3) := by decide +kernel
theorem dX3_copyFrom_19 : decode cX3_copyFrom 19 = .ok (.aload_n 0, 1) := by decide +kernel
theorem dX3_copyFrom_20 : decode cX3_copyFrom 20 = .ok (.aload_n 1, 1) := by decide +kernel
theorem dX3_copyFrom_21 : decode cX3_copyFrom 21 = .ok (.getfield 26, 3) := by decide +kernel
theorem dX3_copyFrom_24 : decode cX3_copyFrom 24 = .ok (.putfield 26, 3) := by decide +kernel
theorem dX3_copyFrom_27 : decode cX3_copyFrom 27 = .ok (.aload_n 0, 1) := by decide +kernel
theorem dX3_copyFrom_28 : decode cX3_copyFrom 28 = .ok (.aload_n 1, 1) := by decide +kernel
theorem dX3_copyFrom_29 : decode cX3_copyFrom 29 = .ok (.getfield 29, 3) := by decide +kernel
theorem dX3_copyFrom_32 : decode cX3_copyFrom 32 = .ok (.putfield 29, 3) := by decide +kernel
theorem dX3_copyFrom_35 : decode cX3_copyFrom 35 = .ok (.aload_n 0, 1) := by decide +kernel
theorem dX3_copyFrom_36 : decode cX3_copyFrom 36 = .ok (.aload_n 1, 1) := by decide +kernel
theorem dX3_copyFrom_37 : decode cX3_copyFrom 37 = .ok (.getfield 32, 3) := by decide +kernel
theorem dX3_copyFrom_40 : decode cX3_copyFrom 40 = .ok (.putfield 32, 3) := by decide +kernel
theorem dX3_copyFrom_43 : decode cX3_copyFrom 43 = .ok (.return_, 1) := by decide +kernel
theorem dX4_init_0 : decode cX4_init 0 = .ok (.aload_n 0, 1) := by decide +kernel
theorem dX4_init_1 : decode cX4_init 1 = .ok (.invokespecial 3, 3) := by decide +kernel
theorem dX4_init_4 : decode cX4_init 4 = .ok (.aload_n 0, 1) := by decide +kernel
theorem dX4_init_5 : decode cX4_init 5 = .ok (.bipush 60, 2) := by decide +kernel
theorem dX4_init_7 : decode cX4_init 7 = .ok (.newarray .int, 2) := by decide +kernel
theorem dX4_init_9 : decode cX4_init 9 = .ok (.putfield 9, 3) := by decide +kernel
theorem dX4_init_12 : decode cX4_init 12 = .ok (.return_, 1) := by decide +kernel
theorem dX5_init_0 : decode cX5_init 0 = .ok (.aload_n 0, 1) := by decide +kernel
theorem dX5_init_1 : decode cX5_init 1 = .ok (.invokespecial 3, 3) := by decide +kernel
theorem dX5_init_4 : decode cX5_init 4 = .ok (.aload_n 0, 1) := by decide +kernel
theorem dX5_init_5 : decode cX5_init 5 = .ok (.new 9, 3) := by decide +kernel
theorem dX5_init_8 : decode cX5_init 8 = .ok (.dup, 1) := by decide +kernel
theorem dX5_init_9 : decode cX5_init 9 = .ok (.invokespecial 11, 3) := by decide +kernel
theorem dX5_init_12 : decode cX5_init 12 = .ok (.putfield 12, 3) := by decide +kernel
theorem dX5_init_15 : decode cX5_init 15 = .ok (.aload_n 0, 1) := by decide +kernel
theorem dX5_init_16 : decode cX5_init 16 = .ok (.new 16, 3) := by decide +kernel
theorem dX5_init_19 : decode cX5_init 19 = .ok (.dup, 1) := by decide +kernel
theorem dX5_init_20 : decode cX5_init 20 = .ok (.invokespecial 18, 3) := by decide +kernel
theorem dX5_init_23 : decode cX5_init 23 = .ok (.putfield 19, 3) := by decide +kernel
theorem dX5_init_26 : decode cX5_init 26 = .ok (.aload_n 0, 1) := by decide +kernel
theorem dX5_init_27 : decode cX5_init 27 = .ok (.iconst 2, 1) := by decide +kernel
theorem dX5_init_28 : decode cX5_init 28 = .ok (.anewarray 23, 3) := by decide +kernel
theorem dX5_init_31 : decode cX5_init 31 = .ok (.putfield 25, 3) := by decide +kernel
theorem dX5_init_34 : decode cX5_init 34 = .ok (.iconst 0, 1) := by decide +kernel
theorem dX5_init_35 : decode cX5_init 35 = .ok (.istore_n 1, 1) := by decide +kernel
theorem dX5_init_36 : decode cX5_init 36 = .ok (.iload_n 1, 1) := by decide +kernel
theorem dX5_init_37 : decode cX5_init 37 = .ok (.iconst 2, 1) := by decide +kernel
theorem dX5_init_38 : decode cX5_init 38 = .ok (.if_icmp .ge 22, 3) := by decide +kernel
theorem dX5_init_41 : decode cX5_init 41 = .ok (.aload_n 0, 1) := by decide +kernel
theorem dX5_init_42 : decode cX5_init 42 = .ok (.getfield 25, 3) := by decide +kernel
theorem dX5_init_45 : decode cX5_init 45 = .ok (.iload_n 1, 1) := by decide +kernel
theorem dX5_init_46 : decode cX5_init 46 = .ok (.new 23, 3) := by decide +kernel
theorem dX5_init_49 : decode cX5_init 49 = .ok (.dup, 1) := by decide +kernel
theorem dX5_init_50 : decode cX5_init 50 = .ok (.invokespecial 29, 3) := by decide +kernel
theorem dX5_init_53 : decode cX5_init 53 = .ok (.aastore, 1) := by decide +kernel
theorem dX5_init_54 : decode cX5_init 54 = .ok (.iinc 1 1, 3) := by decide +kernel
theorem dX5_init_57 : decode cX5_init 57 = .ok (.goto (-21), 3) := by decide +kernel
theorem dX5_init_60 : decode cX5_init 60 = .ok (.aload_n 0, 1) := by decide +kernel
theorem dX5_init_61 : decode cX5_init 61 = .ok (.iconst 2, 1) := by decide +kernel
theorem dX5_init_62 : decode cX5_init 62 = .ok (.newarray .boolean, 2) := by decide +kernel
theorem dX5_init_64 : decode cX5_init 64 = .ok (.putfield 30, 3) := by decide +kernel
theorem dX5_init_67 : decode cX5_init 67 = .ok (.aload_n 0, 1) := by decide +kernel
theorem dX5_init_68 : decode cX5_init 68 = .ok (.new 34, 3) := by decide +kernel
theorem dX5_init_71 : decode cX5_init 71 = .ok (.dup, 1) := by decide +kernel
theorem dX5_init_72 : decode cX5_init 72 = .ok (.invokespecial 36, 3) := by decide +kernel
theorem dX5_init_75 : decode cX5_init 75 = .ok (.putfield 37, 3) := by decide +kernel
theorem dX5_init_78 : decode cX5_init 78 = .ok (.aload_n 0, 1) := by decide +kernel
theorem dX5_init_79 : decode cX5_init 79 = .ok (.new 41, 3) := by decide +kernel
theorem dX5_init_82 : decode cX5_init 82 = .ok (.dup, 1) := by decide +kernel
theorem dX5_init_83 : decode cX5_init 83 = .ok (.invokespecial 43, 3) := by decide +kernel
theorem dX5_init_86 : decode cX5_init 86 = .ok (.putfield 44, 3) := by decide +kernel
theorem dX5_init_89 : decode cX5_init 89 = .ok (.aload_n 0, 1) := by decide +kernel
theorem dX5_init_90 : decode cX5_init 90 = .ok (.bipush 7, 2) := by decide +kernel
theorem dX5_init_92 : decode cX5_init 92 = .ok (.newarray .int, 2) := by decide +kernel
theorem dX5_init_94 : decode cX5_init 94 = .ok (.putfield 48, 3) := by decide +kernel
theorem dX5_init_97 : decode cX5_init 97 = .ok (.aload_n 0, 1) := by decide +kernel
theorem dX5_init_98 : decode cX5_init 98 = .ok (.bipush 7, 2) := by decide +kernel
theorem dX5_init_100 : decode cX5_init 100 = .ok (.newarray .int, 2) := by decide +kernel
theorem dX5_init_102 : decode cX5_init 102 = .ok (.putfield 52, 3) := by decide +kernel
theorem dX5_init_105 : decode cX5_init 105 = .ok (.return_, 1) := by decide +kernel
theorem dX5_cut_0 : decode cX5_cut 0 = .ok (.iload_n 1, 1) := by decide +kernel
theorem dX5_cut_1 : decode cX5_cut 1 = .ok (.iconst 2, 1) := by decide +kernel
theorem dX5_cut_2 : decode cX5_cut 2 = .ok (.if_icmp .lt 9, 3) := by decide +kernel
theorem dX5_cut_5 : decode cX5_cut 5 = .ok (.iload_n 1, 1) := by decide +kernel
theorem dX5_cut_6 : decode cX5_cut 6 = .ok (.bipush 6, 2) := by decide +kernel
theorem dX5_cut_8 : decode cX5_cut 8 = .ok (.if_icmp .le 13, 3) := by decide +kernel
theorem dX5_cut_11 : decode cX5_cut 11 = .ok (.new 55, 3) := by decide +kernel
theorem dX5_cut_14 : decode cX5_cut 14 = .ok (.dup, 1) := by decide +kernel
theorem dX5_cut_15 : decode cX5_cut 15 = .ok (.ldc 57, 2) := by decide +kernel
theorem dX5_cut_17 : decode cX5_cut 17 = .ok (.invokespecial 59, 3) := by decide +kernel
theorem dX5_cut_20 : decode cX5_cut 20 = .ok (.athrow, 1) := by decide +kernel
theorem dX5_cut_21 : decode cX5_cut 21 = .ok (.aload_n 0, 1) := by decide +kernel
theorem dX5_cut_22 : decode cX5_cut 22 = .ok (.getfield 19, 3) := by decide +kernel
theorem dX5_cut_25 : decode cX5_cut 25 = .ok (.aload_n 0, 1) := by decide +kernel
theorem dX5_cut_26 : decode cX5_cut 26 = .ok (.getfield 12, 3) := by decide +kernel
theorem dX5_cut_29 : decode cX5_cut 29 = .ok (.invokevirtual 62, 3) := by decide +kernel
theorem dX5_cut_32 : decode cX5_cut 32 = .ok (.aload_n 0, 1) := by decide +kernel
theorem dX5_cut_33 : decode cX5_cut 33 = .ok (.getfield 12, 3) := by decide +kernel
theorem dX5_cut_36 : decode cX5_cut 36 = .ok (.getfield 66, 3) := by decide +kernel
theorem dX5_cut_39 : decode cX5_cut 39 = .ok (.getfield 70, 3) := by decide +kernel
theorem dX5_cut_42 : decode cX5_cut 42 = .ok (.istore_n 2, 1) := by decide +kernel
theorem dX5_cut_43 : decode cX5_cut 43 = .ok (.aload_n 0, 1) := by decide +kernel
theorem dX5_cut_44 : decode cX5_cut 44 = .ok (.getfield 12, 3) := by decide +kernel
theorem dX5_cut_47 : decode cX5_cut 47 = .ok (.getfield 66, 3) := by decide +kernel
theorem dX5_cut_50 : decode cX5_cut 50 = .ok (.iload_n 1, 1) := by decide +kernel
theorem dX5_cut_51 : decode cX5_cut 51 = .ok (.invokevirtual 74, 3) := by decide +kernel
theorem dX5_cut_54 : decode cX5_cut 54 = .ok (.iload_n 2, 1) := by decide +kernel
theorem dX5_cut_55 : decode cX5_cut 55 = .ok (.ireturn, 1) := by decide +kernel
theorem dX5_setField_0 : decode cX5_setField 0 = .ok (.iload_n 1, 1) := by decide +kernel
theorem dX5_setField_1 : decode cX5_setField 1 = .ok (.invokestatic 78, 3) := by decide +kernel
theorem dX5_setField_4 : decode cX5_setField 4 = .ok (.iload_n 2, 1) := by decide +kernel
theorem dX5_setField_5 : decode cX5_setField 5 = .ok (.iconst 2, 1) := by decide +kernel
theorem dX5_setField_6 : decode cX5_setField 6 = .ok (.aload_n 0, 1) := by decide +kernel
theorem dX5_setField_7 : decode cX5_setField 7 = .ok (.getfield 12, 3) := by decide +kernel
theorem dX5_setField_10 : decode cX5_setField 10 = .ok (.getfield 66, 3) := by decide +kernel
theorem dX5_setField_13 : decode cX5_setField 13 = .ok (.getfield 70, 3) := by decide +kernel
theorem dX5_setField_16 : decode cX5_setField 16 = .ok (.invokestatic 81, 3) := by decide +kernel
theorem dX5_setField_19 : decode cX5_setField 19 = .ok (.aload_n 0, 1) := by decide +kernel
theorem dX5_setField_20 : decode cX5_setField 20 = .ok (.getfield 19, 3) := by decide +kernel
theorem dX5_setField_23 : decode cX5_setField 23 = .ok (.aload_n 0, 1) := by decide +kernel
theorem dX5_setField_24 : decode cX5_setField 24 = .ok (.getfield 12, 3) := by decide +kernel
theorem dX5_setField_27 : decode cX5_setField 27 = .ok (.invokevirtual 62, 3) := by decide +kernel
theorem dX5_setField_30 : decode cX5_setField 30 = .ok (.aload_n 0, 1) := by decide +kernel
theorem dX5_setField_31 : decode cX5_setField 31 = .ok (.getfield 12, 3) := by decide +kernel
theorem dX5_setField_34 : decode cX5_setField 34 = .ok (.getfield 66, 3) := by decide +kernel
theorem dX5_setField_37 : decode cX5_setField 37 = .ok (.getfield 85, 3) := by decide +kernel
theorem dX5_setField_40 : decode cX5_setField 40 = .ok (.iload_n 1, 1) := by decide +kernel
theorem dX5_setField_41 : decode cX5_setField 41 = .ok (.aaload, 1) := by decide +kernel
theorem dX5_setField_42 : decode cX5_setField 42 = .ok (.iload_n 2, 1) := by decide +kernel
theorem dX5_setField_43 : decode cX5_setField 43 = .ok (.iload_n 3, 1) := by decide +kernel
theorem dX5_setField_44 : decode cX5_setField 44 = .ok (.invokestatic 89, 3) := by decide +kernel
theorem dX5_setField_47 : decode cX5_setField 47 = .ok (.ireturn, 1) := by decide +kernel
theorem dX5_setFlow_0 : decode cX5_setFlow 0 = .ok (.iload_n 1, 1) := by decide +kernel
theorem dX5_setFlow_1 : decode cX5_setFlow 1 = .ok (.invokestatic 78, 3) := by decide +kernel
theorem dX5_setFlow_4 : decode cX5_setFlow 4 = .ok (.iload_n 2, 1) := by decide +kernel
theorem dX5_setFlow_5 : decode cX5_setFlow 5 = .ok (.iconst 2, 1) := by decide +kernel
theorem dX5_setFlow_6 : decode cX5_setFlow 6 = .ok (.aload_n 0, 1) := by decide +kernel
theorem dX5_setFlow_7 : decode cX5_setFlow 7 = .ok (.getfield 12, 3) := by decide +kernel
theorem dX5_setFlow_10 : decode cX5_setFlow 10 = .ok (.getfield 66, 3) := by decide +kernel
theorem dX5_setFlow_13 : decode cX5_setFlow 13 = .ok (.getfield 70, 3) := by decide +kernel
theorem dX5_setFlow_16 : decode cX5_setFlow 16 = .ok (.invokestatic 81, 3) := by decide +kernel
theorem dX5_setFlow_19 : decode cX5_setFlow 19 = .ok (.aload_n 0, 1) := by decide +kernel
theorem dX5_setFlow_20 : decode cX5_setFlow 20 = .ok (.getfield 19, 3) := by decide +kernel
theorem dX5_setFlow_23 : decode cX5_setFlow 23 = .ok (.aload_n 0, 1) := by decide +kernel
theorem dX5_setFlow_24 : decode cX5_setFlow 24 = .ok (.getfield 12, 3) := by decide +kernel
theorem dX5_setFlow_27 : decode cX5_setFlow 27 = .ok (.invokevirtual 62, 3) := by decide +kernel
theorem dX5_setFlow_30 : decode cX5_setFlow 30 = .ok (.aload_n 0, 1) := by decide +kernel
theorem dX5_setFlow_31 : decode cX5_setFlow 31 = .ok (.getfield 12, 3) := by decide +kernel
theorem dX5_setFlow_34 : decode cX5_setFlow 34 = .ok (.getfield 66, 3) := by decide +kernel
theorem dX5_setFlow_37 : decode cX5_setFlow 37 = .ok (.getfield 93, 3) := by decide +kernel
theorem dX5_setFlow_40 : decode cX5_setFlow 40 = .ok (.iload_n 1, 1) := by decide +kernel
theorem dX5_setFlow_41 : decode cX5_setFlow 41 = .ok (.aaload, 1) := by decide +kernel
theorem dX5_setFlow_42 : decode cX5_setFlow 42 = .ok (.iload_n 2, 1) := by decide +kernel
theorem dX5_setFlow_43 : decode cX5_setFlow 43 = .ok (.iload_n 3, 1) := by decide +kernel
theorem dX5_setFlow_44 : decode cX5_setFlow 44 = .ok (.invokestatic 89, 3) := by decide +kernel
theorem dX5_setFlow_47 : decode cX5_setFlow 47 = .ok (.ireturn, 1) := by decide +kernel
theorem dX5_earn_0 : decode cX5_earn 0 = .ok (.iload_n 1, 1) := by decide +kernel
theorem dX5_earn_1 : decode cX5_earn 1 = .ok (.iconst 1, 1) := by decide +kernel
theorem dX5_earn_2 : decode cX5_earn 2 = .ok (.if_icmp .lt 10, 3) := by decide +kernel
theorem dX5_earn_5 : decode cX5_earn 5 = .ok (.iload_n 1, 1) := by decide +kernel
theorem dX5_earn_6 : decode cX5_earn 6 = .ok (.sipush 1000, 3) := by decide +kernel
theorem dX5_earn_9 : decode cX5_earn 9 = .ok (.if_icmp .le 13, 3) := by decide +kernel
theorem dX5_earn_12 : decode cX5_earn 12 = .ok (.new 55, 3) := by decide +kernel
theorem dX5_earn_15 : decode cX5_earn 15 = .ok (.dup, 1) := by decide +kernel
theorem dX5_earn_16 : decode cX5_earn 16 = .ok (.ldc 96, 2) := by decide +kernel
theorem dX5_earn_18 : decode cX5_earn 18 = .ok (.invokespecial 59, 3) := by decide +kernel
theorem dX5_earn_21 : decode cX5_earn 21 = .ok (.athrow, 1) := by decide +kernel
theorem dX5_earn_22 : decode cX5_earn 22 = .ok (.aload_n 0, 1) := by decide +kernel
theorem dX5_earn_23 : decode cX5_earn 23 = .ok (.getfield 12, 3) := by decide +kernel
theorem dX5_earn_26 : decode cX5_earn 26 = .ok (.getfield 98, 3) := by decide +kernel
theorem dX5_earn_29 : decode cX5_earn 29 = .ok (.ldc 101, 2) := by decide +kernel
theorem dX5_earn_31 : decode cX5_earn 31 = .ok (.iload_n 1, 1) := by decide +kernel
theorem dX5_earn_32 : decode cX5_earn 32 = .ok (.isub, 1) := by decide +kernel
theorem dX5_earn_33 : decode cX5_earn 33 = .ok (.if_icmp .le 13, 3) := by decide +kernel
theorem dX5_earn_36 : decode cX5_earn 36 = .ok (.new 102, 3) := by decide +kernel
theorem dX5_earn_39 : decode cX5_earn 39 = .ok (.dup, 1) := by decide +kernel
theorem dX5_earn_40 : decode cX5_earn 40 = .ok (.ldc 104, 2) := by decide +kernel
theorem dX5_earn_42 : decode cX5_earn 42 = .ok (.invokespecial 106, 3) := by decide +kernel
theorem dX5_earn_45 : decode cX5_earn 45 = .ok (.athrow, 1) := by decide +kernel
theorem dX5_earn_46 : decode cX5_earn 46 = .ok (.aload_n 0, 1) := by decide +kernel
theorem dX5_earn_47 : decode cX5_earn 47 = .ok (.getfield 19, 3) := by decide +kernel
theorem dX5_earn_50 : decode cX5_earn 50 = .ok (.aload_n 0, 1) := by decide +kernel
theorem dX5_earn_51 : decode cX5_earn 51 = .ok (.getfield 12, 3) := by decide +kernel
theorem dX5_earn_54 : decode cX5_earn 54 = .ok (.invokevirtual 62, 3) := by decide +kernel
theorem dX5_earn_57 : decode cX5_earn 57 = .ok (.aload_n 0, 1) := by decide +kernel
theorem dX5_earn_58 : decode cX5_earn 58 = .ok (.getfield 12, 3) := by decide +kernel
theorem dX5_earn_61 : decode cX5_earn 61 = .ok (.dup, 1) := by decide +kernel
theorem dX5_earn_62 : decode cX5_earn 62 = .ok (.getfield 98, 3) := by decide +kernel
theorem dX5_earn_65 : decode cX5_earn 65 = .ok (.iload_n 1, 1) := by decide +kernel
theorem dX5_earn_66 : decode cX5_earn 66 = .ok (.iadd, 1) := by decide +kernel
theorem dX5_earn_67 : decode cX5_earn 67 = .ok (.putfield 98, 3) := by decide +kernel
theorem dX5_earn_70 : decode cX5_earn 70 = .ok (.aload_n 0, 1) := by decide +kernel
theorem dX5_earn_71 : decode cX5_earn 71 = .ok (.getfield 12, 3) := by decide +kernel
theorem dX5_earn_74 : decode cX5_earn 74 = .ok (.getfield 98, 3) := by decide +kernel
theorem dX5_earn_77 : decode cX5_earn 77 = .ok (.ireturn, 1) := by decide +kernel
theorem dX5_bracket_0 : decode cX5_bracket 0 = .ok (.aload_n 0, 1) := by decide +kernel
theorem dX5_bracket_1 : decode cX5_bracket 1 = .ok (.bipush 98, 2) := by decide +kernel
theorem dX5_bracket_3 : decode cX5_bracket 3 = .ok (.iload_n 1, 1) := by decide +kernel
theorem dX5_bracket_4 : decode cX5_bracket 4 = .ok (.iload_n 2, 1) := by decide +kernel
theorem dX5_bracket_5 : decode cX5_bracket 5 = .ok (.iload_n 3, 1) := by decide +kernel
theorem dX5_bracket_6 : decode cX5_bracket 6 = .ok (.invokevirtual 107, 3) := by decide +kernel
theorem dX5_bracket_9 : decode cX5_bracket 9 = .ok (.ireturn, 1) := by decide +kernel
theorem dX5_sum_0 : decode cX5_sum 0 = .ok (.aload_n 0, 1) := by decide +kernel
theorem dX5_sum_1 : decode cX5_sum 1 = .ok (.bipush 115, 2) := by decide +kernel
theorem dX5_sum_3 : decode cX5_sum 3 = .ok (.iload_n 1, 1) := by decide +kernel
theorem dX5_sum_4 : decode cX5_sum 4 = .ok (.iload_n 2, 1) := by decide +kernel
theorem dX5_sum_5 : decode cX5_sum 5 = .ok (.iload_n 3, 1) := by decide +kernel
theorem dX5_sum_6 : decode cX5_sum 6 = .ok (.invokevirtual 107, 3) := by decide +kernel
theorem dX5_sum_9 : decode cX5_sum 9 = .ok (.ireturn, 1) := by decide +kernel
theorem dX5_scale_0 : decode cX5_scale 0 = .ok (.iload_n 1, 1) := by decide +kernel
theorem dX5_scale_1 : decode cX5_scale 1 = .ok (.invokestatic 78, 3) := by decide +kernel
theorem dX5_scale_4 : decode cX5_scale 4 = .ok (.iload_n 3, 1) := by decide +kernel
theorem dX5_scale_5 : decode cX5_scale 5 = .ok (.invokestatic 78, 3) := by decide +kernel
theorem dX5_scale_8 : decode cX5_scale 8 = .ok (.aload_n 0, 1) := by decide +kernel
theorem dX5_scale_9 : decode cX5_scale 9 = .ok (.iconst 1, 1) := by decide +kernel
theorem dX5_scale_10 : decode cX5_scale 10 = .ok (.invokevirtual 111, 3) := by decide +kernel
theorem dX5_scale_13 : decode cX5_scale 13 = .ok (.aload_n 0, 1) := by decide +kernel
theorem dX5_scale_14 : decode cX5_scale 14 = .ok (.getfield 19, 3) := by decide +kernel
theorem dX5_scale_17 : decode cX5_scale 17 = .ok (.aload_n 0, 1) := by decide +kernel
theorem dX5_scale_18 : decode cX5_scale 18 = .ok (.getfield 12, 3) := by decide +kernel
theorem dX5_scale_21 : decode cX5_scale 21 = .ok (.invokevirtual 62, 3) := by decide +kernel
theorem dX5_scale_24 : decode cX5_scale 24 = .ok (.aload_n 0, 1) := by decide +kernel
theorem dX5_scale_25 : decode cX5_scale 25 = .ok (.iconst 1, 1) := by decide +kernel
theorem dX5_scale_26 : decode cX5_scale 26 = .ok (.invokevirtual 114, 3) := by decide +kernel
theorem dX5_scale_29 : decode cX5_scale 29 = .ok (.aload_n 0, 1) := by decide +kernel
theorem dX5_scale_30 : decode cX5_scale 30 = .ok (.getfield 12, 3) := by decide +kernel
theorem dX5_scale_33 : decode cX5_scale 33 = .ok (.getfield 66, 3) := by decide +kernel
theorem dX5_scale_36 : decode cX5_scale 36 = .ok (.getfield 85, 3) := by decide +kernel
theorem dX5_scale_39 : decode cX5_scale 39 = .ok (.iload_n 1, 1) := by decide +kernel
theorem dX5_scale_40 : decode cX5_scale 40 = .ok (.aaload, 1) := by decide +kernel
theorem dX5_scale_41 : decode cX5_scale 41 = .ok (.iload_n 2, 1) := by decide +kernel
theorem dX5_scale_42 : decode cX5_scale 42 = .ok (.sipush 10007, 3) := by decide +kernel
theorem dX5_scale_45 : decode cX5_scale 45 = .ok (.invokestatic 117, 3) := by decide +kernel
theorem dX5_scale_48 : decode cX5_scale 48 = .ok (.aload_n 0, 1) := by decide +kernel
theorem dX5_scale_49 : decode cX5_scale 49 = .ok (.getfield 48, 3) := by decide +kernel
theorem dX5_scale_52 : decode cX5_scale 52 = .ok (.invokestatic 123, 3) := by decide +kernel
theorem dX5_scale_55 : decode cX5_scale 55 = .ok (.aload_n 0, 1) := by decide +kernel
theorem dX5_scale_56 : decode cX5_scale 56 = .ok (.aload_n 0, 1) := by decide +kernel
theorem dX5_scale_57 : decode cX5_scale 57 = .ok (.getfield 12, 3) := by decide +kernel
theorem dX5_scale_60 : decode cX5_scale 60 = .ok (.getfield 66, 3) := by decide +kernel
theorem dX5_scale_63 : decode cX5_scale 63 = .ok (.getfield 85, 3) := by decide +kernel
theorem dX5_scale_66 : decode cX5_scale 66 = .ok (.iload_n 3, 1) := by decide +kernel
theorem dX5_scale_67 : decode cX5_scale 67 = .ok (.aaload, 1) := by decide +kernel
theorem dX5_scale_68 : decode cX5_scale 68 = .ok (.invokevirtual 127, 3) := by decide +kernel
theorem dX5_scale_71 : decode cX5_scale 71 = .ok (.ireturn, 1) := by decide +kernel
theorem dX5_byBrackets_0 : decode cX5_byBrackets 0 = .ok (.aload_n 0, 1) := by decide +kernel
theorem dX5_byBrackets_1 : decode cX5_byBrackets 1 = .ok (.bipush 119, 2) := by decide +kernel
theorem dX5_byBrackets_3 : decode cX5_byBrackets 3 = .ok (.iload_n 1, 1) := by decide +kernel
theorem dX5_byBrackets_4 : decode cX5_byBrackets 4 = .ok (.iload_n 2, 1) := by decide +kernel
theorem dX5_byBrackets_5 : decode cX5_byBrackets 5 = .ok (.iload_n 3, 1) := by decide +kernel
theorem dX5_byBrackets_6 : decode cX5_byBrackets 6 = .ok (.invokevirtual 107, 3) := by decide +kernel
theorem dX5_byBrackets_9 : decode cX5_byBrackets 9 = .ok (.ireturn, 1) := by decide +kernel
theorem dX5_push_0 : decode cX5_push 0 = .ok (.aload_n 0, 1) := by decide +kernel
theorem dX5_push_1 : decode cX5_push 1 = .ok (.bipush 112, 2) := by decide +kernel
theorem dX5_push_3 : decode cX5_push 3 = .ok (.iload_n 1, 1) := by decide +kernel
theorem dX5_push_4 : decode cX5_push 4 = .ok (.iload_n 2, 1) := by decide +kernel
theorem dX5_push_5 : decode cX5_push 5 = .ok (.iload_n 3, 1) := by decide +kernel
theorem dX5_push_6 : decode cX5_push 6 = .ok (.invokevirtual 107, 3) := by decide +kernel
theorem dX5_push_9 : decode cX5_push 9 = .ok (.ireturn, 1) := by decide +kernel
theorem dX5_log_0 : decode cX5_log 0 = .ok (.aload_n 0, 1) := by decide +kernel
theorem dX5_log_1 : decode cX5_log 1 = .ok (.bipush 108, 2) := by decide +kernel
theorem dX5_log_3 : decode cX5_log 3 = .ok (.iload_n 1, 1) := by decide +kernel
theorem dX5_log_4 : decode cX5_log 4 = .ok (.iload_n 1, 1) := by decide +kernel
theorem dX5_log_5 : decode cX5_log 5 = .ok (.iload_n 2, 1) := by decide +kernel
theorem dX5_log_6 : decode cX5_log 6 = .ok (.invokevirtual 107, 3) := by decide +kernel
theorem dX5_log_9 : decode cX5_log 9 = .ok (.ireturn, 1) := by decide +kernel
theorem dX5_exp_0 : decode cX5_exp 0 = .ok (.aload_n 0, 1) := by decide +kernel
theorem dX5_exp_1 : decode cX5_exp 1 = .ok (.bipush 101, 2) := by decide +kernel
theorem dX5_exp_3 : decode cX5_exp 3 = .ok (.iload_n 1, 1) := by decide +kernel
theorem dX5_exp_4 : decode cX5_exp 4 = .ok (.iload_n 1, 1) := by decide +kernel
theorem dX5_exp_5 : decode cX5_exp 5 = .ok (.iload_n 2, 1) := by decide +kernel
theorem dX5_exp_6 : decode cX5_exp 6 = .ok (.invokevirtual 107, 3) := by decide +kernel
theorem dX5_exp_9 : decode cX5_exp 9 = .ok (.ireturn, 1) := by decide +kernel
theorem dX5_compose_0 : decode cX5_compose 0 = .ok (.aload_n 0, 1) := by decide +kernel
theorem dX5_compose_1 : decode cX5_compose 1 = .ok (.bipush 99, 2) := by decide +kernel
theorem dX5_compose_3 : decode cX5_compose 3 = .ok (.iload_n 1, 1) := by decide +kernel
theorem dX5_compose_4 : decode cX5_compose 4 = .ok (.iload_n 2, 1) := by decide +kernel
theorem dX5_compose_5 : decode cX5_compose 5 = .ok (.iload_n 3, 1) := by decide +kernel
theorem dX5_compose_6 : decode cX5_compose 6 = .ok (.invokevirtual 107, 3) := by decide +kernel
theorem dX5_compose_9 : decode cX5_compose 9 = .ok (.ireturn, 1) := by decide +kernel
theorem dX5_invert_0 : decode cX5_invert 0 = .ok (.aload_n 0, 1) := by decide +kernel
theorem dX5_invert_1 : decode cX5_invert 1 = .ok (.bipush 105, 2) := by decide +kernel
theorem dX5_invert_3 : decode cX5_invert 3 = .ok (.iload_n 1, 1) := by decide +kernel
theorem dX5_invert_4 : decode cX5_invert 4 = .ok (.iload_n 1, 1) := by decide +kernel
theorem dX5_invert_5 : decode cX5_invert 5 = .ok (.iload_n 2, 1) := by decide +kernel
theorem dX5_invert_6 : decode cX5_invert 6 = .ok (.invokevirtual 107, 3) := by decide +kernel
theorem dX5_invert_9 : decode cX5_invert 9 = .ok (.ireturn, 1) := by decide +kernel
theorem dX5_power_0 : decode cX5_power 0 = .ok (.iload_n 1, 1) := by decide +kernel
theorem dX5_power_1 : decode cX5_power 1 = .ok (.invokestatic 78, 3) := by decide +kernel
theorem dX5_power_4 : decode cX5_power 4 = .ok (.iload_n 3, 1) := by decide +kernel
theorem dX5_power_5 : decode cX5_power 5 = .ok (.invokestatic 78, 3) := by decide +kernel
theorem dX5_power_8 : decode cX5_power 8 = .ok (.iload_n 2, 1) := by decide +kernel
theorem dX5_power_9 : decode cX5_power 9 = .ok (.sipush (-5000), 3) := by decide +kernel
theorem dX5_power_12 : decode cX5_power 12 = .ok (.if_icmp .lt 10, 3) := by decide +kernel
theorem dX5_power_15 : decode cX5_power 15 = .ok (.iload_n 2, 1) := by decide +kernel
theorem dX5_power_16 : decode cX5_power 16 = .ok (.sipush 5000, 3) := by decide +kernel
theorem dX5_power_19 : decode cX5_power 19 = .ok (.if_icmp .le 13, 3) := by decide +kernel
theorem dX5_power_22 : decode cX5_power 22 = .ok (.new 55, 3) := by decide +kernel
theorem dX5_power_25 : decode cX5_power 25 = .ok (.dup, 1) := by decide +kernel
theorem dX5_power_26 : decode cX5_power 26 = .ok (.ldc 131, 2) := by decide +kernel
theorem dX5_power_28 : decode cX5_power 28 = .ok (.invokespecial 59, 3) := by decide +kernel
theorem dX5_power_31 : decode cX5_power 31 = .ok (.athrow, 1) := by decide +kernel
theorem dX5_power_32 : decode cX5_power 32 = .ok (.aload_n 0, 1) := by decide +kernel
theorem dX5_power_33 : decode cX5_power 33 = .ok (.iload_n 1, 1) := by decide +kernel
theorem dX5_power_34 : decode cX5_power 34 = .ok (.iload_n 2, 1) := by decide +kernel
theorem dX5_power_35 : decode cX5_power 35 = .ok (.sipush 10007, 3) := by decide +kernel
theorem dX5_power_38 : decode cX5_power 38 = .ok (.invokestatic 117, 3) := by decide +kernel
theorem dX5_power_41 : decode cX5_power 41 = .ok (.iload_n 3, 1) := by decide +kernel
theorem dX5_power_42 : decode cX5_power 42 = .ok (.invokevirtual 133, 3) := by decide +kernel
theorem dX5_power_45 : decode cX5_power 45 = .ok (.ireturn, 1) := by decide +kernel
theorem dX5_field_0 : decode cX5_field 0 = .ok (.iload_n 1, 1) := by decide +kernel
theorem dX5_field_1 : decode cX5_field 1 = .ok (.invokestatic 78, 3) := by decide +kernel
theorem dX5_field_4 : decode cX5_field 4 = .ok (.iload_n 2, 1) := by decide +kernel
theorem dX5_field_5 : decode cX5_field 5 = .ok (.iconst 0, 1) := by decide +kernel
theorem dX5_field_6 : decode cX5_field 6 = .ok (.bipush 6, 2) := by decide +kernel
theorem dX5_field_8 : decode cX5_field 8 = .ok (.invokestatic 81, 3) := by decide +kernel
theorem dX5_field_11 : decode cX5_field 11 = .ok (.aload_n 0, 1) := by decide +kernel
theorem dX5_field_12 : decode cX5_field 12 = .ok (.getfield 12, 3) := by decide +kernel
theorem dX5_field_15 : decode cX5_field 15 = .ok (.getfield 66, 3) := by decide +kernel
theorem dX5_field_18 : decode cX5_field 18 = .ok (.getfield 85, 3) := by decide +kernel
theorem dX5_field_21 : decode cX5_field 21 = .ok (.iload_n 1, 1) := by decide +kernel
theorem dX5_field_22 : decode cX5_field 22 = .ok (.aaload, 1) := by decide +kernel
theorem dX5_field_23 : decode cX5_field 23 = .ok (.iload_n 2, 1) := by decide +kernel
theorem dX5_field_24 : decode cX5_field 24 = .ok (.iaload, 1) := by decide +kernel
theorem dX5_field_25 : decode cX5_field 25 = .ok (.ireturn, 1) := by decide +kernel
theorem dX5_flow_0 : decode cX5_flow 0 = .ok (.iload_n 1, 1) := by decide +kernel
theorem dX5_flow_1 : decode cX5_flow 1 = .ok (.invokestatic 78, 3) := by decide +kernel
theorem dX5_flow_4 : decode cX5_flow 4 = .ok (.iload_n 2, 1) := by decide +kernel
theorem dX5_flow_5 : decode cX5_flow 5 = .ok (.iconst 0, 1) := by decide +kernel
theorem dX5_flow_6 : decode cX5_flow 6 = .ok (.bipush 6, 2) := by decide +kernel
theorem dX5_flow_8 : decode cX5_flow 8 = .ok (.invokestatic 81, 3) := by decide +kernel
theorem dX5_flow_11 : decode cX5_flow 11 = .ok (.aload_n 0, 1) := by decide +kernel
theorem dX5_flow_12 : decode cX5_flow 12 = .ok (.getfield 12, 3) := by decide +kernel
theorem dX5_flow_15 : decode cX5_flow 15 = .ok (.getfield 66, 3) := by decide +kernel
theorem dX5_flow_18 : decode cX5_flow 18 = .ok (.getfield 93, 3) := by decide +kernel
theorem dX5_flow_21 : decode cX5_flow 21 = .ok (.iload_n 1, 1) := by decide +kernel
theorem dX5_flow_22 : decode cX5_flow 22 = .ok (.aaload, 1) := by decide +kernel
theorem dX5_flow_23 : decode cX5_flow 23 = .ok (.iload_n 2, 1) := by decide +kernel
theorem dX5_flow_24 : decode cX5_flow 24 = .ok (.iaload, 1) := by decide +kernel
theorem dX5_flow_25 : decode cX5_flow 25 = .ok (.ireturn, 1) := by decide +kernel
theorem dX5_count_0 : decode cX5_count 0 = .ok (.iload_n 1, 1) := by decide +kernel
theorem dX5_count_1 : decode cX5_count 1 = .ok (.tableswitch 154 0 8 #[51, 62, 70, 81, 92, 100, 108, 116, 146], 51) := by decide +kernel
theorem dX5_count_52 : decode cX5_count 52 = .ok (.aload_n 0, 1) := by decide +kernel
theorem dX5_count_53 : decode cX5_count 53 = .ok (.getfield 12, 3) := by decide +kernel
theorem dX5_count_56 : decode cX5_count 56 = .ok (.getfield 66, 3) := by decide +kernel
theorem dX5_count_59 : decode cX5_count 59 = .ok (.getfield 70, 3) := by decide +kernel
theorem dX5_count_62 : decode cX5_count 62 = .ok (.ireturn, 1) := by decide +kernel
theorem dX5_count_63 : decode cX5_count 63 = .ok (.aload_n 0, 1) := by decide +kernel
theorem dX5_count_64 : decode cX5_count 64 = .ok (.getfield 12, 3) := by decide +kernel
theorem dX5_count_67 : decode cX5_count 67 = .ok (.getfield 98, 3) := by decide +kernel
theorem dX5_count_70 : decode cX5_count 70 = .ok (.ireturn, 1) := by decide +kernel
theorem dX5_count_71 : decode cX5_count 71 = .ok (.aload_n 0, 1) := by decide +kernel
theorem dX5_count_72 : decode cX5_count 72 = .ok (.getfield 12, 3) := by decide +kernel
theorem dX5_count_75 : decode cX5_count 75 = .ok (.getfield 66, 3) := by decide +kernel
theorem dX5_count_78 : decode cX5_count 78 = .ok (.invokevirtual 179, 3) := by decide +kernel
theorem dX5_count_81 : decode cX5_count 81 = .ok (.ireturn, 1) := by decide +kernel
theorem dX5_count_82 : decode cX5_count 82 = .ok (.aload_n 0, 1) := by decide +kernel
theorem dX5_count_83 : decode cX5_count 83 = .ok (.getfield 12, 3) := by decide +kernel
theorem dX5_count_86 : decode cX5_count 86 = .ok (.getfield 66, 3) := by decide +kernel
theorem dX5_count_89 : decode cX5_count 89 = .ok (.invokevirtual 234, 3) := by decide +kernel
theorem dX5_count_92 : decode cX5_count 92 = .ok (.ireturn, 1) := by decide +kernel
theorem dX5_count_93 : decode cX5_count 93 = .ok (.aload_n 0, 1) := by decide +kernel
theorem dX5_count_94 : decode cX5_count 94 = .ok (.getfield 12, 3) := by decide +kernel
theorem dX5_count_97 : decode cX5_count 97 = .ok (.getfield 237, 3) := by decide +kernel
theorem dX5_count_100 : decode cX5_count 100 = .ok (.ireturn, 1) := by decide +kernel
theorem dX5_count_101 : decode cX5_count 101 = .ok (.aload_n 0, 1) := by decide +kernel
theorem dX5_count_102 : decode cX5_count 102 = .ok (.getfield 12, 3) := by decide +kernel
theorem dX5_count_105 : decode cX5_count 105 = .ok (.getfield 240, 3) := by decide +kernel
theorem dX5_count_108 : decode cX5_count 108 = .ok (.ireturn, 1) := by decide +kernel
theorem dX5_count_109 : decode cX5_count 109 = .ok (.aload_n 0, 1) := by decide +kernel
theorem dX5_count_110 : decode cX5_count 110 = .ok (.getfield 12, 3) := by decide +kernel
theorem dX5_count_113 : decode cX5_count 113 = .ok (.getfield 243, 3) := by decide +kernel
theorem dX5_count_116 : decode cX5_count 116 = .ok (.ireturn, 1) := by decide +kernel
theorem dX5_count_117 : decode cX5_count 117 = .ok (.aload_n 0, 1) := by decide +kernel
theorem dX5_count_118 : decode cX5_count 118 = .ok (.getfield 30, 3) := by decide +kernel
theorem dX5_count_121 : decode cX5_count 121 = .ok (.iconst 0, 1) := by decide +kernel
theorem dX5_count_122 : decode cX5_count 122 = .ok (.baload, 1) := by decide +kernel
theorem dX5_count_123 : decode cX5_count 123 = .ok (.ifCond .eq 7, 3) := by decide +kernel
theorem dX5_count_126 : decode cX5_count 126 = .ok (.iconst 1, 1) := by decide +kernel
theorem dX5_count_127 : decode cX5_count 127 = .ok (.goto 4, 3) := by decide +kernel
theorem dX5_count_130 : decode cX5_count 130 = .ok (.iconst 0, 1) := by decide +kernel
theorem dX5_count_131 : decode cX5_count 131 = .ok (.aload_n 0, 1) := by decide +kernel
theorem dX5_count_132 : decode cX5_count 132 = .ok (.getfield 30, 3) := by decide +kernel
theorem dX5_count_135 : decode cX5_count 135 = .ok (.iconst 1, 1) := by decide +kernel
theorem dX5_count_136 : decode cX5_count 136 = .ok (.baload, 1) := by decide +kernel
theorem dX5_count_137 : decode cX5_count 137 = .ok (.ifCond .eq 7, 3) := by decide +kernel
theorem dX5_count_140 : decode cX5_count 140 = .ok (.iconst 1, 1) := by decide +kernel
theorem dX5_count_141 : decode cX5_count 141 = .ok (.goto 4, 3) := by decide +kernel
theorem dX5_count_144 : decode cX5_count 144 = .ok (.iconst 0, 1) := by decide +kernel
theorem dX5_count_145 : decode cX5_count 145 = .ok (.iadd, 1) := by decide +kernel
theorem dX5_count_146 : decode cX5_count 146 = .ok (.ireturn, 1) := by decide +kernel
theorem dX5_count_147 : decode cX5_count 147 = .ok (.aload_n 0, 1) := by decide +kernel
theorem dX5_count_148 : decode cX5_count 148 = .ok (.getfield 19, 3) := by decide +kernel
theorem dX5_count_151 : decode cX5_count 151 = .ok (.getfield 184, 3) := by decide +kernel
theorem dX5_count_154 : decode cX5_count 154 = .ok (.ireturn, 1) := by decide +kernel
theorem dX5_count_155 : decode cX5_count 155 = .ok (.new 55, 3) := by decide +kernel
theorem dX5_count_158 : decode cX5_count 158 = .ok (.dup, 1) := by decide +kernel
theorem dX5_count_159 : decode cX5_count 159 = .ok (.ldc 246, 2) := by decide +kernel
theorem dX5_count_161 : decode cX5_count 161 = .ok (.invokespecial 59, 3) := by decide +kernel
theorem dX5_count_164 : decode cX5_count 164 = .ok (.athrow, 1) := by decide +kernel
theorem dX5_needSlot_0 : decode cX5_needSlot 0 = .ok (.iload_n 0, 1) := by decide +kernel
theorem dX5_needSlot_1 : decode cX5_needSlot 1 = .ok (.ifCond .lt 9, 3) := by decide +kernel
theorem dX5_needSlot_4 : decode cX5_needSlot 4 = .ok (.iload_n 0, 1) := by decide +kernel
theorem dX5_needSlot_5 : decode cX5_needSlot 5 = .ok (.bipush 6, 2) := by decide +kernel
theorem dX5_needSlot_7 : decode cX5_needSlot 7 = .ok (.if_icmp .lt 14, 3) := by decide +kernel
theorem dX5_needSlot_10 : decode cX5_needSlot 10 = .ok (.new 278, 3) := by decide +kernel
theorem dX5_needSlot_13 : decode cX5_needSlot 13 = .ok (.dup, 1) := by decide +kernel
theorem dX5_needSlot_14 : decode cX5_needSlot 14 = .ok (.ldc_w 280, 3) := by decide +kernel
theorem dX5_needSlot_17 : decode cX5_needSlot 17 = .ok (.invokespecial 282, 3) := by decide +kernel
theorem dX5_needSlot_20 : decode cX5_needSlot 20 = .ok (.athrow, 1) := by decide +kernel
theorem dX5_needSlot_21 : decode cX5_needSlot 21 = .ok (.return_, 1) := by decide +kernel
theorem dX5_needPower_0 : decode cX5_needPower 0 = .ok (.iload_n 0, 1) := by decide +kernel
theorem dX5_needPower_1 : decode cX5_needPower 1 = .ok (.iload_n 1, 1) := by decide +kernel
theorem dX5_needPower_2 : decode cX5_needPower 2 = .ok (.if_icmp .lt 8, 3) := by decide +kernel
theorem dX5_needPower_5 : decode cX5_needPower 5 = .ok (.iload_n 0, 1) := by decide +kernel
theorem dX5_needPower_6 : decode cX5_needPower 6 = .ok (.iload_n 2, 1) := by decide +kernel
theorem dX5_needPower_7 : decode cX5_needPower 7 = .ok (.if_icmp .le 14, 3) := by decide +kernel
theorem dX5_needPower_10 : decode cX5_needPower 10 = .ok (.new 278, 3) := by decide +kernel
theorem dX5_needPower_13 : decode cX5_needPower 13 = .ok (.dup, 1) := by decide +kernel
theorem dX5_needPower_14 : decode cX5_needPower 14 = .ok (.ldc_w 283, 3) := by decide +kernel
theorem dX5_needPower_17 : decode cX5_needPower 17 = .ok (.invokespecial 282, 3) := by decide +kernel
theorem dX5_needPower_20 : decode cX5_needPower 20 = .ok (.athrow, 1) := by decide +kernel
theorem dX5_needPower_21 : decode cX5_needPower 21 = .ok (.return_, 1) := by decide +kernel
theorem dX5_needMoney_0 : decode cX5_needMoney 0 = .ok (.aload_n 0, 1) := by decide +kernel
theorem dX5_needMoney_1 : decode cX5_needMoney 1 = .ok (.getfield 12, 3) := by decide +kernel
theorem dX5_needMoney_4 : decode cX5_needMoney 4 = .ok (.getfield 98, 3) := by decide +kernel
theorem dX5_needMoney_7 : decode cX5_needMoney 7 = .ok (.aload_n 0, 1) := by decide +kernel
theorem dX5_needMoney_8 : decode cX5_needMoney 8 = .ok (.iload_n 1, 1) := by decide +kernel
theorem dX5_needMoney_9 : decode cX5_needMoney 9 = .ok (.invokevirtual 228, 3) := by decide +kernel
theorem dX5_needMoney_12 : decode cX5_needMoney 12 = .ok (.if_icmp .ge 14, 3) := by decide +kernel
theorem dX5_needMoney_15 : decode cX5_needMoney 15 = .ok (.new 102, 3) := by decide +kernel
theorem dX5_needMoney_18 : decode cX5_needMoney 18 = .ok (.dup, 1) := by decide +kernel
theorem dX5_needMoney_19 : decode cX5_needMoney 19 = .ok (.ldc_w 287, 3) := by decide +kernel
theorem dX5_needMoney_22 : decode cX5_needMoney 22 = .ok (.invokespecial 106, 3) := by decide +kernel
theorem dX5_needMoney_25 : decode cX5_needMoney 25 = .ok (.athrow, 1) := by decide +kernel
theorem dX5_needMoney_26 : decode cX5_needMoney 26 = .ok (.return_, 1) := by decide +kernel
theorem dX5_costOf_0 : decode cX5_costOf 0 = .ok (.iload_n 1, 1) := by decide +kernel
theorem dX5_costOf_1 : decode cX5_costOf 1 = .ok (.aload_n 0, 1) := by decide +kernel
theorem dX5_costOf_2 : decode cX5_costOf 2 = .ok (.getfield 12, 3) := by decide +kernel
theorem dX5_costOf_5 : decode cX5_costOf 5 = .ok (.getfield 66, 3) := by decide +kernel
theorem dX5_costOf_8 : decode cX5_costOf 8 = .ok (.getfield 70, 3) := by decide +kernel
theorem dX5_costOf_11 : decode cX5_costOf 11 = .ok (.imul, 1) := by decide +kernel
theorem dX5_costOf_12 : decode cX5_costOf 12 = .ok (.ireturn, 1) := by decide +kernel
theorem dX5_pay_0 : decode cX5_pay 0 = .ok (.aload_n 0, 1) := by decide +kernel
theorem dX5_pay_1 : decode cX5_pay 1 = .ok (.iload_n 1, 1) := by decide +kernel
theorem dX5_pay_2 : decode cX5_pay 2 = .ok (.invokevirtual 228, 3) := by decide +kernel
theorem dX5_pay_5 : decode cX5_pay 5 = .ok (.istore_n 2, 1) := by decide +kernel
theorem dX5_pay_6 : decode cX5_pay 6 = .ok (.aload_n 0, 1) := by decide +kernel
theorem dX5_pay_7 : decode cX5_pay 7 = .ok (.getfield 12, 3) := by decide +kernel
theorem dX5_pay_10 : decode cX5_pay 10 = .ok (.dup, 1) := by decide +kernel
theorem dX5_pay_11 : decode cX5_pay 11 = .ok (.getfield 98, 3) := by decide +kernel
theorem dX5_pay_14 : decode cX5_pay 14 = .ok (.iload_n 2, 1) := by decide +kernel
theorem dX5_pay_15 : decode cX5_pay 15 = .ok (.isub, 1) := by decide +kernel
theorem dX5_pay_16 : decode cX5_pay 16 = .ok (.putfield 98, 3) := by decide +kernel
theorem dX5_pay_19 : decode cX5_pay 19 = .ok (.aload_n 0, 1) := by decide +kernel
theorem dX5_pay_20 : decode cX5_pay 20 = .ok (.getfield 12, 3) := by decide +kernel
theorem dX5_pay_23 : decode cX5_pay 23 = .ok (.dup, 1) := by decide +kernel
theorem dX5_pay_24 : decode cX5_pay 24 = .ok (.getfield 237, 3) := by decide +kernel
theorem dX5_pay_27 : decode cX5_pay 27 = .ok (.iload_n 2, 1) := by decide +kernel
theorem dX5_pay_28 : decode cX5_pay 28 = .ok (.iadd, 1) := by decide +kernel
theorem dX5_pay_29 : decode cX5_pay 29 = .ok (.putfield 237, 3) := by decide +kernel
theorem dX5_pay_32 : decode cX5_pay 32 = .ok (.aload_n 0, 1) := by decide +kernel
theorem dX5_pay_33 : decode cX5_pay 33 = .ok (.getfield 12, 3) := by decide +kernel
theorem dX5_pay_36 : decode cX5_pay 36 = .ok (.dup, 1) := by decide +kernel
theorem dX5_pay_37 : decode cX5_pay 37 = .ok (.getfield 240, 3) := by decide +kernel
theorem dX5_pay_40 : decode cX5_pay 40 = .ok (.iconst 1, 1) := by decide +kernel
theorem dX5_pay_41 : decode cX5_pay 41 = .ok (.iadd, 1) := by decide +kernel
theorem dX5_pay_42 : decode cX5_pay 42 = .ok (.putfield 240, 3) := by decide +kernel
theorem dX5_pay_45 : decode cX5_pay 45 = .ok (.return_, 1) := by decide +kernel
theorem dX5_replace_0 : decode cX5_replace 0 = .ok (.aload_n 0, 1) := by decide +kernel
theorem dX5_replace_1 : decode cX5_replace 1 = .ok (.iload_n 1, 1) := by decide +kernel
theorem dX5_replace_2 : decode cX5_replace 2 = .ok (.iaload, 1) := by decide +kernel
theorem dX5_replace_3 : decode cX5_replace 3 = .ok (.istore_n 3, 1) := by decide +kernel
theorem dX5_replace_4 : decode cX5_replace 4 = .ok (.aload_n 0, 1) := by decide +kernel
theorem dX5_replace_5 : decode cX5_replace 5 = .ok (.iload_n 1, 1) := by decide +kernel
theorem dX5_replace_6 : decode cX5_replace 6 = .ok (.iload_n 2, 1) := by decide +kernel
theorem dX5_replace_7 : decode cX5_replace 7 = .ok (.sipush 10007, 3) := by decide +kernel
theorem dX5_replace_10 : decode cX5_replace 10 = .ok (.invokestatic 117, 3) := by decide +kernel
theorem dX5_replace_13 : decode cX5_replace 13 = .ok (.iastore, 1) := by decide +kernel
theorem dX5_replace_14 : decode cX5_replace 14 = .ok (.iload_n 3, 1) := by decide +kernel
theorem dX5_replace_15 : decode cX5_replace 15 = .ok (.ireturn, 1) := by decide +kernel
theorem dX5_put_0 : decode cX5_put 0 = .ok (.aload_n 0, 1) := by decide +kernel
theorem dX5_put_1 : decode cX5_put 1 = .ok (.getfield 48, 3) := by decide +kernel
theorem dX5_put_4 : decode cX5_put 4 = .ok (.iconst 0, 1) := by decide +kernel
theorem dX5_put_5 : decode cX5_put 5 = .ok (.aload_n 1, 1) := by decide +kernel
theorem dX5_put_6 : decode cX5_put 6 = .ok (.iconst 0, 1) := by decide +kernel
theorem dX5_put_7 : decode cX5_put 7 = .ok (.bipush 7, 2) := by decide +kernel
theorem dX5_put_9 : decode cX5_put 9 = .ok (.invokestatic 289, 3) := by decide +kernel
theorem dX5_put_12 : decode cX5_put 12 = .ok (.aload_n 1, 1) := by decide +kernel
theorem dX5_put_13 : decode cX5_put 13 = .ok (.invokestatic 202, 3) := by decide +kernel
theorem dX5_put_16 : decode cX5_put 16 = .ok (.ireturn, 1) := by decide +kernel
theorem dX5_repeat_0 : decode cX5_repeat 0 = .ok (.aload_n 0, 1) := by decide +kernel
theorem dX5_repeat_1 : decode cX5_repeat 1 = .ok (.bipush 8, 2) := by decide +kernel
theorem dX5_repeat_3 : decode cX5_repeat 3 = .ok (.invokevirtual 111, 3) := by decide +kernel
theorem dX5_repeat_6 : decode cX5_repeat 6 = .ok (.aload_n 0, 1) := by decide +kernel
theorem dX5_repeat_7 : decode cX5_repeat 7 = .ok (.getfield 19, 3) := by decide +kernel
theorem dX5_repeat_10 : decode cX5_repeat 10 = .ok (.aload_n 0, 1) := by decide +kernel
theorem dX5_repeat_11 : decode cX5_repeat 11 = .ok (.getfield 12, 3) := by decide +kernel
theorem dX5_repeat_14 : decode cX5_repeat 14 = .ok (.invokevirtual 62, 3) := by decide +kernel
theorem dX5_repeat_17 : decode cX5_repeat 17 = .ok (.aload_n 0, 1) := by decide +kernel
theorem dX5_repeat_18 : decode cX5_repeat 18 = .ok (.bipush 8, 2) := by decide +kernel
theorem dX5_repeat_20 : decode cX5_repeat 20 = .ok (.invokevirtual 114, 3) := by decide +kernel
theorem dX5_repeat_23 : decode cX5_repeat 23 = .ok (.aload_n 0, 1) := by decide +kernel
theorem dX5_repeat_24 : decode cX5_repeat 24 = .ok (.getfield 44, 3) := by decide +kernel
theorem dX5_repeat_27 : decode cX5_repeat 27 = .ok (.aload_n 0, 1) := by decide +kernel
theorem dX5_repeat_28 : decode cX5_repeat 28 = .ok (.getfield 12, 3) := by decide +kernel
theorem dX5_repeat_31 : decode cX5_repeat 31 = .ok (.getfield 66, 3) := by decide +kernel
theorem dX5_repeat_34 : decode cX5_repeat 34 = .ok (.getfield 93, 3) := by decide +kernel
theorem dX5_repeat_37 : decode cX5_repeat 37 = .ok (.iload_n 1, 1) := by decide +kernel
theorem dX5_repeat_38 : decode cX5_repeat 38 = .ok (.aaload, 1) := by decide +kernel
theorem dX5_repeat_39 : decode cX5_repeat 39 = .ok (.iload_n 2, 1) := by decide +kernel
theorem dX5_repeat_40 : decode cX5_repeat 40 = .ok (.aload_n 0, 1) := by decide +kernel
theorem dX5_repeat_41 : decode cX5_repeat 41 = .ok (.getfield 12, 3) := by decide +kernel
theorem dX5_repeat_44 : decode cX5_repeat 44 = .ok (.getfield 66, 3) := by decide +kernel
theorem dX5_repeat_47 : decode cX5_repeat 47 = .ok (.getfield 70, 3) := by decide +kernel
theorem dX5_repeat_50 : decode cX5_repeat 50 = .ok (.aload_n 0, 1) := by decide +kernel
theorem dX5_repeat_51 : decode cX5_repeat 51 = .ok (.getfield 48, 3) := by decide +kernel
theorem dX5_repeat_54 : decode cX5_repeat 54 = .ok (.invokevirtual 295, 3) := by decide +kernel
theorem dX5_repeat_57 : decode cX5_repeat 57 = .ok (.aload_n 0, 1) := by decide +kernel
theorem dX5_repeat_58 : decode cX5_repeat 58 = .ok (.aload_n 0, 1) := by decide +kernel
theorem dX5_repeat_59 : decode cX5_repeat 59 = .ok (.getfield 12, 3) := by decide +kernel
theorem dX5_repeat_62 : decode cX5_repeat 62 = .ok (.getfield 66, 3) := by decide +kernel
theorem dX5_repeat_65 : decode cX5_repeat 65 = .ok (.getfield 93, 3) := by decide +kernel
theorem dX5_repeat_68 : decode cX5_repeat 68 = .ok (.iload_n 3, 1) := by decide +kernel
theorem dX5_repeat_69 : decode cX5_repeat 69 = .ok (.aaload, 1) := by decide +kernel
theorem dX5_repeat_70 : decode cX5_repeat 70 = .ok (.invokevirtual 127, 3) := by decide +kernel
theorem dX5_repeat_73 : decode cX5_repeat 73 = .ok (.ireturn, 1) := by decide +kernel
theorem dX5_unitsOf_0 : decode cX5_unitsOf 0 = .ok (.iload_n 0, 1) := by decide +kernel
theorem dX5_unitsOf_1 : decode cX5_unitsOf 1 = .ok (.tableswitch 117 98 119 #[103, 115, 117, 113, 117, 117, 117, 115, 117, 117, 110, 117, 117, 117, 110, 117, 117, 105, 117, 117, 117, 107], 103) := by decide +kernel
theorem dX5_unitsOf_104 : decode cX5_unitsOf 104 = .ok (.iconst 2, 1) := by decide +kernel
theorem dX5_unitsOf_105 : decode cX5_unitsOf 105 = .ok (.ireturn, 1) := by decide +kernel
theorem dX5_unitsOf_106 : decode cX5_unitsOf 106 = .ok (.iconst 1, 1) := by decide +kernel
theorem dX5_unitsOf_107 : decode cX5_unitsOf 107 = .ok (.ireturn, 1) := by decide +kernel
theorem dX5_unitsOf_108 : decode cX5_unitsOf 108 = .ok (.bipush 20, 2) := by decide +kernel
theorem dX5_unitsOf_110 : decode cX5_unitsOf 110 = .ok (.ireturn, 1) := by decide +kernel
theorem dX5_unitsOf_111 : decode cX5_unitsOf 111 = .ok (.bipush 6, 2) := by decide +kernel
theorem dX5_unitsOf_113 : decode cX5_unitsOf 113 = .ok (.ireturn, 1) := by decide +kernel
theorem dX5_unitsOf_114 : decode cX5_unitsOf 114 = .ok (.iconst 5, 1) := by decide +kernel
theorem dX5_unitsOf_115 : decode cX5_unitsOf 115 = .ok (.ireturn, 1) := by decide +kernel
theorem dX5_unitsOf_116 : decode cX5_unitsOf 116 = .ok (.iconst 4, 1) := by decide +kernel
theorem dX5_unitsOf_117 : decode cX5_unitsOf 117 = .ok (.ireturn, 1) := by decide +kernel
theorem dX5_unitsOf_118 : decode cX5_unitsOf 118 = .ok (.iconst 0, 1) := by decide +kernel
theorem dX5_unitsOf_119 : decode cX5_unitsOf 119 = .ok (.ireturn, 1) := by decide +kernel
theorem dX5_orderAlone_0 : decode cX5_orderAlone 0 = .ok (.iload_n 2, 1) := by decide +kernel
theorem dX5_orderAlone_1 : decode cX5_orderAlone 1 = .ok (.invokestatic 78, 3) := by decide +kernel
theorem dX5_orderAlone_4 : decode cX5_orderAlone 4 = .ok (.iload_n 3, 1) := by decide +kernel
theorem dX5_orderAlone_5 : decode cX5_orderAlone 5 = .ok (.invokestatic 78, 3) := by decide +kernel
theorem dX5_orderAlone_8 : decode cX5_orderAlone 8 = .ok (.iload 4, 2) := by decide +kernel
theorem dX5_orderAlone_10 : decode cX5_orderAlone 10 = .ok (.invokestatic 78, 3) := by decide +kernel
theorem dX5_orderAlone_13 : decode cX5_orderAlone 13 = .ok (.aload_n 0, 1) := by decide +kernel
theorem dX5_orderAlone_14 : decode cX5_orderAlone 14 = .ok (.iload_n 1, 1) := by decide +kernel
theorem dX5_orderAlone_15 : decode cX5_orderAlone 15 = .ok (.invokestatic 225, 3) := by decide +kernel
theorem dX5_orderAlone_18 : decode cX5_orderAlone 18 = .ok (.invokevirtual 111, 3) := by decide +kernel
theorem dX5_orderAlone_21 : decode cX5_orderAlone 21 = .ok (.aload_n 0, 1) := by decide +kernel
theorem dX5_orderAlone_22 : decode cX5_orderAlone 22 = .ok (.getfield 19, 3) := by decide +kernel
theorem dX5_orderAlone_25 : decode cX5_orderAlone 25 = .ok (.aload_n 0, 1) := by decide +kernel
theorem dX5_orderAlone_26 : decode cX5_orderAlone 26 = .ok (.getfield 12, 3) := by decide +kernel
theorem dX5_orderAlone_29 : decode cX5_orderAlone 29 = .ok (.invokevirtual 62, 3) := by decide +kernel
theorem dX5_orderAlone_32 : decode cX5_orderAlone 32 = .ok (.aload_n 0, 1) := by decide +kernel
theorem dX5_orderAlone_33 : decode cX5_orderAlone 33 = .ok (.iload_n 1, 1) := by decide +kernel
theorem dX5_orderAlone_34 : decode cX5_orderAlone 34 = .ok (.iload_n 2, 1) := by decide +kernel
theorem dX5_orderAlone_35 : decode cX5_orderAlone 35 = .ok (.iload_n 3, 1) := by decide +kernel
theorem dX5_orderAlone_36 : decode cX5_orderAlone 36 = .ok (.iload 4, 2) := by decide +kernel
theorem dX5_orderAlone_38 : decode cX5_orderAlone 38 = .ok (.invokevirtual 299, 3) := by decide +kernel
theorem dX5_orderAlone_41 : decode cX5_orderAlone 41 = .ok (.ireturn, 1) := by decide +kernel
theorem dX5_carryOut_0 : decode cX5_carryOut 0 = .ok (.aload_n 0, 1) := by decide +kernel
theorem dX5_carryOut_1 : decode cX5_carryOut 1 = .ok (.iload_n 1, 1) := by decide +kernel
theorem dX5_carryOut_2 : decode cX5_carryOut 2 = .ok (.invokestatic 225, 3) := by decide +kernel
theorem dX5_carryOut_5 : decode cX5_carryOut 5 = .ok (.invokevirtual 114, 3) := by decide +kernel
theorem dX5_carryOut_8 : decode cX5_carryOut 8 = .ok (.iload_n 1, 1) := by decide +kernel
theorem dX5_carryOut_9 : decode cX5_carryOut 9 = .ok (.bipush 98, 2) := by decide +kernel
theorem dX5_carryOut_11 : decode cX5_carryOut 11 = .ok (.if_icmp .ne 16, 3) := by decide +kernel
theorem dX5_carryOut_14 : decode cX5_carryOut 14 = .ok (.aload_n 0, 1) := by decide +kernel
theorem dX5_carryOut_15 : decode cX5_carryOut 15 = .ok (.getfield 12, 3) := by decide +kernel
theorem dX5_carryOut_18 : decode cX5_carryOut 18 = .ok (.dup, 1) := by decide +kernel
theorem dX5_carryOut_19 : decode cX5_carryOut 19 = .ok (.getfield 243, 3) := by decide +kernel
theorem dX5_carryOut_22 : decode cX5_carryOut 22 = .ok (.iconst 1, 1) := by decide +kernel
theorem dX5_carryOut_23 : decode cX5_carryOut 23 = .ok (.iadd, 1) := by decide +kernel
theorem dX5_carryOut_24 : decode cX5_carryOut 24 = .ok (.putfield 243, 3) := by decide +kernel
theorem dX5_carryOut_27 : decode cX5_carryOut 27 = .ok (.aload_n 0, 1) := by decide +kernel
theorem dX5_carryOut_28 : decode cX5_carryOut 28 = .ok (.getfield 12, 3) := by decide +kernel
theorem dX5_carryOut_31 : decode cX5_carryOut 31 = .ok (.getfield 66, 3) := by decide +kernel
theorem dX5_carryOut_34 : decode cX5_carryOut 34 = .ok (.getfield 85, 3) := by decide +kernel
theorem dX5_carryOut_37 : decode cX5_carryOut 37 = .ok (.astore 5, 2) := by decide +kernel
theorem dX5_carryOut_39 : decode cX5_carryOut 39 = .ok (.aload_n 0, 1) := by decide +kernel
theorem dX5_carryOut_40 : decode cX5_carryOut 40 = .ok (.getfield 12, 3) := by decide +kernel
theorem dX5_carryOut_43 : decode cX5_carryOut 43 = .ok (.getfield 66, 3) := by decide +kernel
theorem dX5_carryOut_46 : decode cX5_carryOut 46 = .ok (.getfield 93, 3) := by decide +kernel
theorem dX5_carryOut_49 : decode cX5_carryOut 49 = .ok (.astore 6, 2) := by decide +kernel
theorem dX5_carryOut_51 : decode cX5_carryOut 51 = .ok (.aload_n 0, 1) := by decide +kernel
theorem dX5_carryOut_52 : decode cX5_carryOut 52 = .ok (.getfield 12, 3) := by decide +kernel
theorem dX5_carryOut_55 : decode cX5_carryOut 55 = .ok (.getfield 66, 3) := by decide +kernel
theorem dX5_carryOut_58 : decode cX5_carryOut 58 = .ok (.getfield 70, 3) := by decide +kernel
theorem dX5_carryOut_61 : decode cX5_carryOut 61 = .ok (.istore 7, 2) := by decide +kernel
theorem dX5_carryOut_63 : decode cX5_carryOut 63 = .ok (.iload_n 1, 1) := by decide +kernel
theorem dX5_carryOut_64 : decode cX5_carryOut 64 = .ok (.tableswitch 335 98 119 #[104, 277, 335, 250, 335, 335, 335, 308, 335, 335, 223, 335, 335, 335, 192, 335, 335, 135, 335, 335, 335, 160], 104) := by decide +kernel
theorem dX5_carryOut_168 : decode cX5_carryOut 168 = .ok (.aload_n 0, 1) := by decide +kernel
theorem dX5_carryOut_169 : decode cX5_carryOut 169 = .ok (.getfield 44, 3) := by decide +kernel
theorem dX5_carryOut_172 : decode cX5_carryOut 172 = .ok (.aload 5, 2) := by decide +kernel
theorem dX5_carryOut_174 : decode cX5_carryOut 174 = .ok (.iload_n 2, 1) := by decide +kernel
theorem dX5_carryOut_175 : decode cX5_carryOut 175 = .ok (.aaload, 1) := by decide +kernel
theorem dX5_carryOut_176 : decode cX5_carryOut 176 = .ok (.aload 5, 2) := by decide +kernel
theorem dX5_carryOut_178 : decode cX5_carryOut 178 = .ok (.iload_n 3, 1) := by decide +kernel
theorem dX5_carryOut_179 : decode cX5_carryOut 179 = .ok (.aaload, 1) := by decide +kernel
theorem dX5_carryOut_180 : decode cX5_carryOut 180 = .ok (.iload 7, 2) := by decide +kernel
theorem dX5_carryOut_182 : decode cX5_carryOut 182 = .ok (.aload_n 0, 1) := by decide +kernel
theorem dX5_carryOut_183 : decode cX5_carryOut 183 = .ok (.getfield 48, 3) := by decide +kernel
theorem dX5_carryOut_186 : decode cX5_carryOut 186 = .ok (.invokevirtual 198, 3) := by decide +kernel
theorem dX5_carryOut_189 : decode cX5_carryOut 189 = .ok (.aload_n 0, 1) := by decide +kernel
theorem dX5_carryOut_190 : decode cX5_carryOut 190 = .ok (.aload 5, 2) := by decide +kernel
theorem dX5_carryOut_192 : decode cX5_carryOut 192 = .ok (.iload 4, 2) := by decide +kernel
theorem dX5_carryOut_194 : decode cX5_carryOut 194 = .ok (.aaload, 1) := by decide +kernel
theorem dX5_carryOut_195 : decode cX5_carryOut 195 = .ok (.invokevirtual 127, 3) := by decide +kernel
theorem dX5_carryOut_198 : decode cX5_carryOut 198 = .ok (.ireturn, 1) := by decide +kernel
theorem dX5_carryOut_199 : decode cX5_carryOut 199 = .ok (.aload 5, 2) := by decide +kernel
theorem dX5_carryOut_201 : decode cX5_carryOut 201 = .ok (.iload_n 2, 1) := by decide +kernel
theorem dX5_carryOut_202 : decode cX5_carryOut 202 = .ok (.aaload, 1) := by decide +kernel
theorem dX5_carryOut_203 : decode cX5_carryOut 203 = .ok (.aload 5, 2) := by decide +kernel
theorem dX5_carryOut_205 : decode cX5_carryOut 205 = .ok (.iload_n 3, 1) := by decide +kernel
theorem dX5_carryOut_206 : decode cX5_carryOut 206 = .ok (.aaload, 1) := by decide +kernel
theorem dX5_carryOut_207 : decode cX5_carryOut 207 = .ok (.aload_n 0, 1) := by decide +kernel
theorem dX5_carryOut_208 : decode cX5_carryOut 208 = .ok (.getfield 48, 3) := by decide +kernel
theorem dX5_carryOut_211 : decode cX5_carryOut 211 = .ok (.invokestatic 308, 3) := by decide +kernel
theorem dX5_carryOut_214 : decode cX5_carryOut 214 = .ok (.aload_n 0, 1) := by decide +kernel
theorem dX5_carryOut_215 : decode cX5_carryOut 215 = .ok (.aload 5, 2) := by decide +kernel
theorem dX5_carryOut_217 : decode cX5_carryOut 217 = .ok (.iload 4, 2) := by decide +kernel
theorem dX5_carryOut_219 : decode cX5_carryOut 219 = .ok (.aaload, 1) := by decide +kernel
theorem dX5_carryOut_220 : decode cX5_carryOut 220 = .ok (.invokevirtual 127, 3) := by decide +kernel
theorem dX5_carryOut_223 : decode cX5_carryOut 223 = .ok (.ireturn, 1) := by decide +kernel
theorem dX5_carryOut_224 : decode cX5_carryOut 224 = .ok (.aload_n 0, 1) := by decide +kernel
theorem dX5_carryOut_225 : decode cX5_carryOut 225 = .ok (.getfield 44, 3) := by decide +kernel
theorem dX5_carryOut_228 : decode cX5_carryOut 228 = .ok (.aload 5, 2) := by decide +kernel
theorem dX5_carryOut_230 : decode cX5_carryOut 230 = .ok (.iload_n 2, 1) := by decide +kernel
theorem dX5_carryOut_231 : decode cX5_carryOut 231 = .ok (.aaload, 1) := by decide +kernel
theorem dX5_carryOut_232 : decode cX5_carryOut 232 = .ok (.aload 5, 2) := by decide +kernel
theorem dX5_carryOut_234 : decode cX5_carryOut 234 = .ok (.iload_n 3, 1) := by decide +kernel
theorem dX5_carryOut_235 : decode cX5_carryOut 235 = .ok (.aaload, 1) := by decide +kernel
theorem dX5_carryOut_236 : decode cX5_carryOut 236 = .ok (.iconst 5, 1) := by decide +kernel
theorem dX5_carryOut_237 : decode cX5_carryOut 237 = .ok (.iload 7, 2) := by decide +kernel
theorem dX5_carryOut_239 : decode cX5_carryOut 239 = .ok (.aload_n 0, 1) := by decide +kernel
theorem dX5_carryOut_240 : decode cX5_carryOut 240 = .ok (.getfield 48, 3) := by decide +kernel
theorem dX5_carryOut_243 : decode cX5_carryOut 243 = .ok (.invokevirtual 312, 3) := by decide +kernel
theorem dX5_carryOut_246 : decode cX5_carryOut 246 = .ok (.aload_n 0, 1) := by decide +kernel
theorem dX5_carryOut_247 : decode cX5_carryOut 247 = .ok (.aload 5, 2) := by decide +kernel
theorem dX5_carryOut_249 : decode cX5_carryOut 249 = .ok (.iload 4, 2) := by decide +kernel
theorem dX5_carryOut_251 : decode cX5_carryOut 251 = .ok (.aaload, 1) := by decide +kernel
theorem dX5_carryOut_252 : decode cX5_carryOut 252 = .ok (.invokevirtual 127, 3) := by decide +kernel
theorem dX5_carryOut_255 : decode cX5_carryOut 255 = .ok (.ireturn, 1) := by decide +kernel
theorem dX5_carryOut_256 : decode cX5_carryOut 256 = .ok (.aload_n 0, 1) := by decide +kernel
theorem dX5_carryOut_257 : decode cX5_carryOut 257 = .ok (.getfield 44, 3) := by decide +kernel
theorem dX5_carryOut_260 : decode cX5_carryOut 260 = .ok (.aload 6, 2) := by decide +kernel
theorem dX5_carryOut_262 : decode cX5_carryOut 262 = .ok (.iload_n 2, 1) := by decide +kernel
theorem dX5_carryOut_263 : decode cX5_carryOut 263 = .ok (.aaload, 1) := by decide +kernel
theorem dX5_carryOut_264 : decode cX5_carryOut 264 = .ok (.aload 5, 2) := by decide +kernel
theorem dX5_carryOut_266 : decode cX5_carryOut 266 = .ok (.iload_n 3, 1) := by decide +kernel
theorem dX5_carryOut_267 : decode cX5_carryOut 267 = .ok (.aaload, 1) := by decide +kernel
theorem dX5_carryOut_268 : decode cX5_carryOut 268 = .ok (.iload 7, 2) := by decide +kernel
theorem dX5_carryOut_270 : decode cX5_carryOut 270 = .ok (.aload_n 0, 1) := by decide +kernel
theorem dX5_carryOut_271 : decode cX5_carryOut 271 = .ok (.getfield 48, 3) := by decide +kernel
theorem dX5_carryOut_274 : decode cX5_carryOut 274 = .ok (.invokevirtual 316, 3) := by decide +kernel
theorem dX5_carryOut_277 : decode cX5_carryOut 277 = .ok (.aload_n 0, 1) := by decide +kernel
theorem dX5_carryOut_278 : decode cX5_carryOut 278 = .ok (.aload 5, 2) := by decide +kernel
theorem dX5_carryOut_280 : decode cX5_carryOut 280 = .ok (.iload 4, 2) := by decide +kernel
theorem dX5_carryOut_282 : decode cX5_carryOut 282 = .ok (.aaload, 1) := by decide +kernel
theorem dX5_carryOut_283 : decode cX5_carryOut 283 = .ok (.invokevirtual 127, 3) := by decide +kernel
theorem dX5_carryOut_286 : decode cX5_carryOut 286 = .ok (.ireturn, 1) := by decide +kernel
theorem dX5_carryOut_287 : decode cX5_carryOut 287 = .ok (.aload_n 0, 1) := by decide +kernel
theorem dX5_carryOut_288 : decode cX5_carryOut 288 = .ok (.getfield 44, 3) := by decide +kernel
theorem dX5_carryOut_291 : decode cX5_carryOut 291 = .ok (.aload 6, 2) := by decide +kernel
theorem dX5_carryOut_293 : decode cX5_carryOut 293 = .ok (.iload_n 2, 1) := by decide +kernel
theorem dX5_carryOut_294 : decode cX5_carryOut 294 = .ok (.aaload, 1) := by decide +kernel
theorem dX5_carryOut_295 : decode cX5_carryOut 295 = .ok (.iload 7, 2) := by decide +kernel
theorem dX5_carryOut_297 : decode cX5_carryOut 297 = .ok (.aload_n 0, 1) := by decide +kernel
theorem dX5_carryOut_298 : decode cX5_carryOut 298 = .ok (.getfield 48, 3) := by decide +kernel
theorem dX5_carryOut_301 : decode cX5_carryOut 301 = .ok (.invokevirtual 319, 3) := by decide +kernel
theorem dX5_carryOut_304 : decode cX5_carryOut 304 = .ok (.aload_n 0, 1) := by decide +kernel
theorem dX5_carryOut_305 : decode cX5_carryOut 305 = .ok (.aload 5, 2) := by decide +kernel
theorem dX5_carryOut_307 : decode cX5_carryOut 307 = .ok (.iload 4, 2) := by decide +kernel
theorem dX5_carryOut_309 : decode cX5_carryOut 309 = .ok (.aaload, 1) := by decide +kernel
theorem dX5_carryOut_310 : decode cX5_carryOut 310 = .ok (.invokevirtual 127, 3) := by decide +kernel
theorem dX5_carryOut_313 : decode cX5_carryOut 313 = .ok (.ireturn, 1) := by decide +kernel
theorem dX5_carryOut_314 : decode cX5_carryOut 314 = .ok (.aload_n 0, 1) := by decide +kernel
theorem dX5_carryOut_315 : decode cX5_carryOut 315 = .ok (.getfield 44, 3) := by decide +kernel
theorem dX5_carryOut_318 : decode cX5_carryOut 318 = .ok (.aload 5, 2) := by decide +kernel
theorem dX5_carryOut_320 : decode cX5_carryOut 320 = .ok (.iload_n 2, 1) := by decide +kernel
theorem dX5_carryOut_321 : decode cX5_carryOut 321 = .ok (.aaload, 1) := by decide +kernel
theorem dX5_carryOut_322 : decode cX5_carryOut 322 = .ok (.iload 7, 2) := by decide +kernel
theorem dX5_carryOut_324 : decode cX5_carryOut 324 = .ok (.aload_n 0, 1) := by decide +kernel
theorem dX5_carryOut_325 : decode cX5_carryOut 325 = .ok (.getfield 48, 3) := by decide +kernel
theorem dX5_carryOut_328 : decode cX5_carryOut 328 = .ok (.invokevirtual 322, 3) := by decide +kernel
theorem dX5_carryOut_331 : decode cX5_carryOut 331 = .ok (.aload_n 0, 1) := by decide +kernel
theorem dX5_carryOut_332 : decode cX5_carryOut 332 = .ok (.aload 6, 2) := by decide +kernel
theorem dX5_carryOut_334 : decode cX5_carryOut 334 = .ok (.iload 4, 2) := by decide +kernel
theorem dX5_carryOut_336 : decode cX5_carryOut 336 = .ok (.aaload, 1) := by decide +kernel
theorem dX5_carryOut_337 : decode cX5_carryOut 337 = .ok (.invokevirtual 127, 3) := by decide +kernel
theorem dX5_carryOut_340 : decode cX5_carryOut 340 = .ok (.ireturn, 1) := by decide +kernel
theorem dX5_carryOut_341 : decode cX5_carryOut 341 = .ok (.aload_n 0, 1) := by decide +kernel
theorem dX5_carryOut_342 : decode cX5_carryOut 342 = .ok (.getfield 44, 3) := by decide +kernel
theorem dX5_carryOut_345 : decode cX5_carryOut 345 = .ok (.aload 6, 2) := by decide +kernel
theorem dX5_carryOut_347 : decode cX5_carryOut 347 = .ok (.iload_n 2, 1) := by decide +kernel
theorem dX5_carryOut_348 : decode cX5_carryOut 348 = .ok (.aaload, 1) := by decide +kernel
theorem dX5_carryOut_349 : decode cX5_carryOut 349 = .ok (.aload 6, 2) := by decide +kernel
theorem dX5_carryOut_351 : decode cX5_carryOut 351 = .ok (.iload_n 3, 1) := by decide +kernel
theorem dX5_carryOut_352 : decode cX5_carryOut 352 = .ok (.aaload, 1) := by decide +kernel
theorem dX5_carryOut_353 : decode cX5_carryOut 353 = .ok (.iload 7, 2) := by decide +kernel
theorem dX5_carryOut_355 : decode cX5_carryOut 355 = .ok (.aload_n 0, 1) := by decide +kernel
theorem dX5_carryOut_356 : decode cX5_carryOut 356 = .ok (.getfield 48, 3) := by decide +kernel
theorem dX5_carryOut_359 : decode cX5_carryOut 359 = .ok (.invokevirtual 205, 3) := by decide +kernel
theorem dX5_carryOut_362 : decode cX5_carryOut 362 = .ok (.aload_n 0, 1) := by decide +kernel
theorem dX5_carryOut_363 : decode cX5_carryOut 363 = .ok (.aload 6, 2) := by decide +kernel
theorem dX5_carryOut_365 : decode cX5_carryOut 365 = .ok (.iload 4, 2) := by decide +kernel
theorem dX5_carryOut_367 : decode cX5_carryOut 367 = .ok (.aaload, 1) := by decide +kernel
theorem dX5_carryOut_368 : decode cX5_carryOut 368 = .ok (.invokevirtual 127, 3) := by decide +kernel
theorem dX5_carryOut_371 : decode cX5_carryOut 371 = .ok (.ireturn, 1) := by decide +kernel
theorem dX5_carryOut_372 : decode cX5_carryOut 372 = .ok (.aload_n 0, 1) := by decide +kernel
theorem dX5_carryOut_373 : decode cX5_carryOut 373 = .ok (.getfield 44, 3) := by decide +kernel
theorem dX5_carryOut_376 : decode cX5_carryOut 376 = .ok (.aload 6, 2) := by decide +kernel
theorem dX5_carryOut_378 : decode cX5_carryOut 378 = .ok (.iload_n 2, 1) := by decide +kernel
theorem dX5_carryOut_379 : decode cX5_carryOut 379 = .ok (.aaload, 1) := by decide +kernel
theorem dX5_carryOut_380 : decode cX5_carryOut 380 = .ok (.iload 7, 2) := by decide +kernel
theorem dX5_carryOut_382 : decode cX5_carryOut 382 = .ok (.aload_n 0, 1) := by decide +kernel
theorem dX5_carryOut_383 : decode cX5_carryOut 383 = .ok (.getfield 48, 3) := by decide +kernel
theorem dX5_carryOut_386 : decode cX5_carryOut 386 = .ok (.invokevirtual 325, 3) := by decide +kernel
theorem dX5_carryOut_389 : decode cX5_carryOut 389 = .ok (.aload_n 0, 1) := by decide +kernel
theorem dX5_carryOut_390 : decode cX5_carryOut 390 = .ok (.aload 6, 2) := by decide +kernel
theorem dX5_carryOut_392 : decode cX5_carryOut 392 = .ok (.iload 4, 2) := by decide +kernel
theorem dX5_carryOut_394 : decode cX5_carryOut 394 = .ok (.aaload, 1) := by decide +kernel
theorem dX5_carryOut_395 : decode cX5_carryOut 395 = .ok (.invokevirtual 127, 3) := by decide +kernel
theorem dX5_carryOut_398 : decode cX5_carryOut 398 = .ok (.ireturn, 1) := by decide +kernel
theorem dX5_carryOut_399 : decode cX5_carryOut 399 = .ok (.iconst (-1), 1) := by decide +kernel
theorem dX5_carryOut_400 : decode cX5_carryOut 400 = .ok (.ireturn, 1) := by decide +kernel
theorem dJ9_floorMod_7cf53_0 : decode cJ9_floorMod_7cf53 0 = .ok (.iload_n 0, 1) := by decide +kernel
theorem dJ9_floorMod_7cf53_1 : decode cJ9_floorMod_7cf53 1 = .ok (.iload_n 1, 1) := by decide +kernel
theorem dJ9_floorMod_7cf53_2 : decode cJ9_floorMod_7cf53 2 = .ok (.irem, 1) := by decide +kernel
theorem dJ9_floorMod_7cf53_3 : decode cJ9_floorMod_7cf53 3 = .ok (.istore_n 2, 1) := by decide +kernel
theorem dJ9_floorMod_7cf53_4 : decode cJ9_floorMod_7cf53 4 = .ok (.iload_n 0, 1) := by decide +kernel
theorem dJ9_floorMod_7cf53_5 : decode cJ9_floorMod_7cf53 5 = .ok (.iload_n 1, 1) := by decide +kernel
theorem dJ9_floorMod_7cf53_6 : decode cJ9_floorMod_7cf53 6 = .ok (.ixor, 1) := by decide +kernel
theorem dJ9_floorMod_7cf53_7 : decode cJ9_floorMod_7cf53 7 = .ok (.ifCond .ge 11, 3) := by decide +kernel
theorem dJ9_floorMod_7cf53_10 : decode cJ9_floorMod_7cf53 10 = .ok (.iload_n 2, 1) := by decide +kernel
theorem dJ9_floorMod_7cf53_11 : decode cJ9_floorMod_7cf53 11 = .ok (.ifCond .eq 7, 3) := by decide +kernel
theorem dJ9_floorMod_7cf53_14 : decode cJ9_floorMod_7cf53 14 = .ok (.iload_n 2, 1) := by decide +kernel
theorem dJ9_floorMod_7cf53_15 : decode cJ9_floorMod_7cf53 15 = .ok (.iload_n 1, 1) := by decide +kernel
theorem dJ9_floorMod_7cf53_16 : decode cJ9_floorMod_7cf53 16 = .ok (.iadd, 1) := by decide +kernel
theorem dJ9_floorMod_7cf53_17 : decode cJ9_floorMod_7cf53 17 = .ok (.ireturn, 1) := by decide +kernel
theorem dJ9_floorMod_7cf53_18 : decode cJ9_floorMod_7cf53 18 = .ok (.iload_n 2, 1) := by decide +kernel
theorem dJ9_floorMod_7cf53_19 : decode cJ9_floorMod_7cf53 19 = .ok (.ireturn, 1) := by decide +kernel
theorem dJ7_fill_53178_0 : decode cJ7_fill_53178 0 = .ok (.iconst 0, 1) := by decide +kernel
theorem dJ7_fill_53178_1 : decode cJ7_fill_53178 1 = .ok (.istore_n 2, 1) := by decide +kernel
theorem dJ7_fill_53178_2 : decode cJ7_fill_53178 2 = .ok (.aload_n 0, 1) := by decide +kernel
theorem dJ7_fill_53178_3 : decode cJ7_fill_53178 3 = .ok (.arraylength, 1) := by decide +kernel
theorem dJ7_fill_53178_4 : decode cJ7_fill_53178 4 = .ok (.istore_n 3, 1) := by decide +kernel
theorem dJ7_fill_53178_5 : decode cJ7_fill_53178 5 = .ok (.iload_n 2, 1) := by decide +kernel
theorem dJ7_fill_53178_6 : decode cJ7_fill_53178 6 = .ok (.iload_n 3, 1) := by decide +kernel
theorem dJ7_fill_53178_7 : decode cJ7_fill_53178 7 = .ok (.if_icmp .ge 13, 3) := by decide +kernel
theorem dJ7_fill_53178_10 : decode cJ7_fill_53178 10 = .ok (.aload_n 0, 1) := by decide +kernel
theorem dJ7_fill_53178_11 : decode cJ7_fill_53178 11 = .ok (.iload_n 2, 1) := by decide +kernel
theorem dJ7_fill_53178_12 : decode cJ7_fill_53178 12 = .ok (.iload_n 1, 1) := by decide +kernel
theorem dJ7_fill_53178_13 : decode cJ7_fill_53178 13 = .ok (.iastore, 1) := by decide +kernel
theorem dJ7_fill_53178_14 : decode cJ7_fill_53178 14 = .ok (.iinc 2 1, 3) := by decide +kernel
theorem dJ7_fill_53178_17 : decode cJ7_fill_53178 17 = .ok (.goto (-12), 3) := by decide +kernel
theorem dJ7_fill_53178_20 : decode cJ7_fill_53178 20 = .ok (.return_, 1) := by decide +kernel
theorem dL_cell_0 : decode cL_cell 0 = .ok (.iload_n 1, 1) := by decide +kernel
theorem dL_cell_1 : decode cL_cell 1 = .ok (.aload_n 0, 1) := by decide +kernel
theorem dL_cell_2 : decode cL_cell 2 = .ok (.arraylength, 1) := by decide +kernel
theorem dL_cell_3 : decode cL_cell 3 = .ok (.if_icmp .ge 9, 3) := by decide +kernel
theorem dL_cell_6 : decode cL_cell 6 = .ok (.aload_n 0, 1) := by decide +kernel
theorem dL_cell_7 : decode cL_cell 7 = .ok (.iload_n 1, 1) := by decide +kernel
theorem dL_cell_8 : decode cL_cell 8 = .ok (.iaload, 1) := by decide +kernel
theorem dL_cell_9 : decode cL_cell 9 = .ok (.goto 11, 3) := by decide +kernel
theorem dL_cell_12 : decode cL_cell 12 = .ok (.ldc 7, 2) := by decide +kernel
theorem dL_cell_14 : decode cL_cell 14 = .ok (.iload_n 1, 1) := by decide +kernel
theorem dL_cell_15 : decode cL_cell 15 = .ok (.sipush 239, 3) := by decide +kernel
theorem dL_cell_18 : decode cL_cell 18 = .ok (.iadd, 1) := by decide +kernel
theorem dL_cell_19 : decode cL_cell 19 = .ok (.imul, 1) := by decide +kernel
theorem dL_cell_20 : decode cL_cell 20 = .ok (.ireturn, 1) := by decide +kernel
theorem dL_at_0 : decode cL_at 0 = .ok (.iload_n 0, 1) := by decide +kernel
theorem dL_at_1 : decode cL_at 1 = .ok (.iconst 1, 1) := by decide +kernel
theorem dL_at_2 : decode cL_at 2 = .ok (.iushr, 1) := by decide +kernel
theorem dL_at_3 : decode cL_at 3 = .ok (.iload_n 1, 1) := by decide +kernel
theorem dL_at_4 : decode cL_at 4 = .ok (.irem, 1) := by decide +kernel
theorem dL_at_5 : decode cL_at 5 = .ok (.ireturn, 1) := by decide +kernel
theorem dL_mod_0 : decode cL_mod 0 = .ok (.iload_n 0, 1) := by decide +kernel
theorem dL_mod_1 : decode cL_mod 1 = .ok (.sipush 10007, 3) := by decide +kernel
theorem dL_mod_4 : decode cL_mod 4 = .ok (.irem, 1) := by decide +kernel
theorem dL_mod_5 : decode cL_mod 5 = .ok (.sipush 10007, 3) := by decide +kernel
theorem dL_mod_8 : decode cL_mod 8 = .ok (.iadd, 1) := by decide +kernel
theorem dL_mod_9 : decode cL_mod 9 = .ok (.sipush 10007, 3) := by decide +kernel
theorem dL_mod_12 : decode cL_mod 12 = .ok (.irem, 1) := by decide +kernel
theorem dL_mod_13 : decode cL_mod 13 = .ok (.ireturn, 1) := by decide +kernel
theorem dL_over_0 : decode cL_over 0 = .ok (.iload_n 0, 1) := by decide +kernel
theorem dL_over_1 : decode cL_over 1 = .ok (.invokestatic 8, 3) := by decide +kernel
theorem dL_over_4 : decode cL_over 4 = .ok (.istore_n 2, 1) := by decide +kernel
theorem dL_over_5 : decode cL_over 5 = .ok (.iload_n 2, 1) := by decide +kernel
theorem dL_over_6 : decode cL_over 6 = .ok (.iload_n 1, 1) := by decide +kernel
theorem dL_over_7 : decode cL_over 7 = .ok (.irem, 1) := by decide +kernel
theorem dL_over_8 : decode cL_over 8 = .ok (.ifCond .eq 12, 3) := by decide +kernel
theorem dL_over_11 : decode cL_over 11 = .ok (.iinc 2 10007, 6) := by decide +kernel
theorem dL_over_17 : decode cL_over 17 = .ok (.goto (-12), 3) := by decide +kernel
theorem dL_over_20 : decode cL_over 20 = .ok (.iload_n 2, 1) := by decide +kernel
theorem dL_over_21 : decode cL_over 21 = .ok (.iload_n 1, 1) := by decide +kernel
theorem dL_over_22 : decode cL_over 22 = .ok (.idiv, 1) := by decide +kernel
theorem dL_over_23 : decode cL_over 23 = .ok (.ireturn, 1) := by decide +kernel
theorem dL_get_0 : decode cL_get 0 = .ok (.bipush 7, 2) := by decide +kernel
theorem dL_get_2 : decode cL_get 2 = .ok (.newarray .int, 2) := by decide +kernel
theorem dL_get_4 : decode cL_get 4 = .ok (.astore_n 2, 1) := by decide +kernel
theorem dL_get_5 : decode cL_get 5 = .ok (.iconst 0, 1) := by decide +kernel
theorem dL_get_6 : decode cL_get 6 = .ok (.istore_n 3, 1) := by decide +kernel
theorem dL_get_7 : decode cL_get 7 = .ok (.iload_n 3, 1) := by decide +kernel
theorem dL_get_8 : decode cL_get 8 = .ok (.bipush 7, 2) := by decide +kernel
theorem dL_get_10 : decode cL_get 10 = .ok (.if_icmp .ge 20, 3) := by decide +kernel
theorem dL_get_13 : decode cL_get 13 = .ok (.aload_n 2, 1) := by decide +kernel
theorem dL_get_14 : decode cL_get 14 = .ok (.iload_n 3, 1) := by decide +kernel
theorem dL_get_15 : decode cL_get 15 = .ok (.aload_n 0, 1) := by decide +kernel
theorem dL_get_16 : decode cL_get 16 = .ok (.bipush 7, 2) := by decide +kernel
theorem dL_get_18 : decode cL_get 18 = .ok (.iload_n 1, 1) := by decide +kernel
theorem dL_get_19 : decode cL_get 19 = .ok (.imul, 1) := by decide +kernel
theorem dL_get_20 : decode cL_get 20 = .ok (.iload_n 3, 1) := by decide +kernel
theorem dL_get_21 : decode cL_get 21 = .ok (.iadd, 1) := by decide +kernel
theorem dL_get_22 : decode cL_get 22 = .ok (.iaload, 1) := by decide +kernel
theorem dL_get_23 : decode cL_get 23 = .ok (.iastore, 1) := by decide +kernel
theorem dL_get_24 : decode cL_get 24 = .ok (.iinc 3 1, 3) := by decide +kernel
theorem dL_get_27 : decode cL_get 27 = .ok (.goto (-20), 3) := by decide +kernel
theorem dL_get_30 : decode cL_get 30 = .ok (.aload_n 2, 1) := by decide +kernel
theorem dL_get_31 : decode cL_get 31 = .ok (.areturn, 1) := by decide +kernel
theorem dL_times_0 : decode cL_times 0 = .ok (.bipush 7, 2) := by decide +kernel
theorem dL_times_2 : decode cL_times 2 = .ok (.newarray .int, 2) := by decide +kernel
theorem dL_times_4 : decode cL_times 4 = .ok (.astore_n 3, 1) := by decide +kernel
theorem dL_times_5 : decode cL_times 5 = .ok (.iconst 0, 1) := by decide +kernel
theorem dL_times_6 : decode cL_times 6 = .ok (.istore 4, 2) := by decide +kernel
theorem dL_times_8 : decode cL_times 8 = .ok (.iload 4, 2) := by decide +kernel
theorem dL_times_10 : decode cL_times 10 = .ok (.iload_n 0, 1) := by decide +kernel
theorem dL_times_11 : decode cL_times 11 = .ok (.if_icmp .gt 49, 3) := by decide +kernel
theorem dL_times_14 : decode cL_times 14 = .ok (.iconst 0, 1) := by decide +kernel
theorem dL_times_15 : decode cL_times 15 = .ok (.istore 5, 2) := by decide +kernel
theorem dL_times_17 : decode cL_times 17 = .ok (.iload 5, 2) := by decide +kernel
theorem dL_times_19 : decode cL_times 19 = .ok (.iload 4, 2) := by decide +kernel
theorem dL_times_21 : decode cL_times 21 = .ok (.if_icmp .gt 33, 3) := by decide +kernel
theorem dL_times_24 : decode cL_times 24 = .ok (.aload_n 3, 1) := by decide +kernel
theorem dL_times_25 : decode cL_times 25 = .ok (.iload 4, 2) := by decide +kernel
theorem dL_times_27 : decode cL_times 27 = .ok (.aload_n 3, 1) := by decide +kernel
theorem dL_times_28 : decode cL_times 28 = .ok (.iload 4, 2) := by decide +kernel
theorem dL_times_30 : decode cL_times 30 = .ok (.iaload, 1) := by decide +kernel
theorem dL_times_31 : decode cL_times 31 = .ok (.aload_n 1, 1) := by decide +kernel
theorem dL_times_32 : decode cL_times 32 = .ok (.iload 5, 2) := by decide +kernel
theorem dL_times_34 : decode cL_times 34 = .ok (.iaload, 1) := by decide +kernel
theorem dL_times_35 : decode cL_times 35 = .ok (.aload_n 2, 1) := by decide +kernel
theorem dL_times_36 : decode cL_times 36 = .ok (.iload 4, 2) := by decide +kernel
theorem dL_times_38 : decode cL_times 38 = .ok (.iload 5, 2) := by decide +kernel
theorem dL_times_40 : decode cL_times 40 = .ok (.isub, 1) := by decide +kernel
theorem dL_times_41 : decode cL_times 41 = .ok (.iaload, 1) := by decide +kernel
theorem dL_times_42 : decode cL_times 42 = .ok (.imul, 1) := by decide +kernel
theorem dL_times_43 : decode cL_times 43 = .ok (.iadd, 1) := by decide +kernel
theorem dL_times_44 : decode cL_times 44 = .ok (.invokestatic 8, 3) := by decide +kernel
theorem dL_times_47 : decode cL_times 47 = .ok (.iastore, 1) := by decide +kernel
theorem dL_times_48 : decode cL_times 48 = .ok (.iinc 5 1, 3) := by decide +kernel
theorem dL_times_51 : decode cL_times 51 = .ok (.goto (-34), 3) := by decide +kernel
theorem dL_times_54 : decode cL_times 54 = .ok (.iinc 4 1, 3) := by decide +kernel
theorem dL_times_57 : decode cL_times 57 = .ok (.goto (-49), 3) := by decide +kernel
theorem dL_times_60 : decode cL_times 60 = .ok (.aload_n 3, 1) := by decide +kernel
theorem dL_times_61 : decode cL_times 61 = .ok (.areturn, 1) := by decide +kernel
theorem dL_slope_0 : decode cL_slope 0 = .ok (.bipush 7, 2) := by decide +kernel
theorem dL_slope_2 : decode cL_slope 2 = .ok (.newarray .int, 2) := by decide +kernel
theorem dL_slope_4 : decode cL_slope 4 = .ok (.astore_n 1, 1) := by decide +kernel
theorem dL_slope_5 : decode cL_slope 5 = .ok (.iconst 1, 1) := by decide +kernel
theorem dL_slope_6 : decode cL_slope 6 = .ok (.istore_n 2, 1) := by decide +kernel
theorem dL_slope_7 : decode cL_slope 7 = .ok (.iload_n 2, 1) := by decide +kernel
theorem dL_slope_8 : decode cL_slope 8 = .ok (.bipush 7, 2) := by decide +kernel
theorem dL_slope_10 : decode cL_slope 10 = .ok (.if_icmp .ge 22, 3) := by decide +kernel
theorem dL_slope_13 : decode cL_slope 13 = .ok (.aload_n 1, 1) := by decide +kernel
theorem dL_slope_14 : decode cL_slope 14 = .ok (.iload_n 2, 1) := by decide +kernel
theorem dL_slope_15 : decode cL_slope 15 = .ok (.iconst 1, 1) := by decide +kernel
theorem dL_slope_16 : decode cL_slope 16 = .ok (.isub, 1) := by decide +kernel
theorem dL_slope_17 : decode cL_slope 17 = .ok (.aload_n 0, 1) := by decide +kernel
theorem dL_slope_18 : decode cL_slope 18 = .ok (.iload_n 2, 1) := by decide +kernel
theorem dL_slope_19 : decode cL_slope 19 = .ok (.iaload, 1) := by decide +kernel
theorem dL_slope_20 : decode cL_slope 20 = .ok (.iload_n 2, 1) := by decide +kernel
theorem dL_slope_21 : decode cL_slope 21 = .ok (.imul, 1) := by decide +kernel
theorem dL_slope_22 : decode cL_slope 22 = .ok (.invokestatic 8, 3) := by decide +kernel
theorem dL_slope_25 : decode cL_slope 25 = .ok (.iastore, 1) := by decide +kernel
theorem dL_slope_26 : decode cL_slope 26 = .ok (.iinc 2 1, 3) := by decide +kernel
theorem dL_slope_29 : decode cL_slope 29 = .ok (.goto (-22), 3) := by decide +kernel
theorem dL_slope_32 : decode cL_slope 32 = .ok (.aload_n 1, 1) := by decide +kernel
theorem dL_slope_33 : decode cL_slope 33 = .ok (.areturn, 1) := by decide +kernel
theorem dL_plus_0 : decode cL_plus 0 = .ok (.bipush 7, 2) := by decide +kernel
theorem dL_plus_2 : decode cL_plus 2 = .ok (.newarray .int, 2) := by decide +kernel
theorem dL_plus_4 : decode cL_plus 4 = .ok (.astore_n 3, 1) := by decide +kernel
theorem dL_plus_5 : decode cL_plus 5 = .ok (.iconst 0, 1) := by decide +kernel
theorem dL_plus_6 : decode cL_plus 6 = .ok (.istore 4, 2) := by decide +kernel
theorem dL_plus_8 : decode cL_plus 8 = .ok (.iload 4, 2) := by decide +kernel
theorem dL_plus_10 : decode cL_plus 10 = .ok (.bipush 7, 2) := by decide +kernel
theorem dL_plus_12 : decode cL_plus 12 = .ok (.if_icmp .ge 30, 3) := by decide +kernel
theorem dL_plus_15 : decode cL_plus 15 = .ok (.aload_n 3, 1) := by decide +kernel
theorem dL_plus_16 : decode cL_plus 16 = .ok (.iload 4, 2) := by decide +kernel
theorem dL_plus_18 : decode cL_plus 18 = .ok (.aload_n 0, 1) := by decide +kernel
theorem dL_plus_19 : decode cL_plus 19 = .ok (.iload 4, 2) := by decide +kernel
theorem dL_plus_21 : decode cL_plus 21 = .ok (.iaload, 1) := by decide +kernel
theorem dL_plus_22 : decode cL_plus 22 = .ok (.aload_n 1, 1) := by decide +kernel
theorem dL_plus_23 : decode cL_plus 23 = .ok (.iload 4, 2) := by decide +kernel
theorem dL_plus_25 : decode cL_plus 25 = .ok (.iaload, 1) := by decide +kernel
theorem dL_plus_26 : decode cL_plus 26 = .ok (.iload_n 2, 1) := by decide +kernel
theorem dL_plus_27 : decode cL_plus 27 = .ok (.invokestatic 8, 3) := by decide +kernel
theorem dL_plus_30 : decode cL_plus 30 = .ok (.imul, 1) := by decide +kernel
theorem dL_plus_31 : decode cL_plus 31 = .ok (.iadd, 1) := by decide +kernel
theorem dL_plus_32 : decode cL_plus 32 = .ok (.invokestatic 8, 3) := by decide +kernel
theorem dL_plus_35 : decode cL_plus 35 = .ok (.iastore, 1) := by decide +kernel
theorem dL_plus_36 : decode cL_plus 36 = .ok (.iinc 4 1, 3) := by decide +kernel
theorem dL_plus_39 : decode cL_plus 39 = .ok (.goto (-31), 3) := by decide +kernel
theorem dL_plus_42 : decode cL_plus 42 = .ok (.aload_n 3, 1) := by decide +kernel
theorem dL_plus_43 : decode cL_plus 43 = .ok (.areturn, 1) := by decide +kernel
theorem dL_bracket_0 : decode cL_bracket 0 = .ok (.iload_n 0, 1) := by decide +kernel
theorem dL_bracket_1 : decode cL_bracket 1 = .ok (.aload_n 1, 1) := by decide +kernel
theorem dL_bracket_2 : decode cL_bracket 2 = .ok (.aload_n 2, 1) := by decide +kernel
theorem dL_bracket_3 : decode cL_bracket 3 = .ok (.invokestatic 14, 3) := by decide +kernel
theorem dL_bracket_6 : decode cL_bracket 6 = .ok (.invokestatic 18, 3) := by decide +kernel
theorem dL_bracket_9 : decode cL_bracket 9 = .ok (.iload_n 0, 1) := by decide +kernel
theorem dL_bracket_10 : decode cL_bracket 10 = .ok (.aload_n 2, 1) := by decide +kernel
theorem dL_bracket_11 : decode cL_bracket 11 = .ok (.aload_n 1, 1) := by decide +kernel
theorem dL_bracket_12 : decode cL_bracket 12 = .ok (.invokestatic 14, 3) := by decide +kernel
theorem dL_bracket_15 : decode cL_bracket 15 = .ok (.invokestatic 18, 3) := by decide +kernel
theorem dL_bracket_18 : decode cL_bracket 18 = .ok (.iconst (-1), 1) := by decide +kernel
theorem dL_bracket_19 : decode cL_bracket 19 = .ok (.invokestatic 22, 3) := by decide +kernel
theorem dL_bracket_22 : decode cL_bracket 22 = .ok (.areturn, 1) := by decide +kernel
theorem dL_within_0 : decode cL_within 0 = .ok (.bipush 7, 2) := by decide +kernel
theorem dL_within_2 : decode cL_within 2 = .ok (.newarray .int, 2) := by decide +kernel
theorem dL_within_4 : decode cL_within 4 = .ok (.astore_n 3, 1) := by decide +kernel
theorem dL_within_5 : decode cL_within 5 = .ok (.iload_n 0, 1) := by decide +kernel
theorem dL_within_6 : decode cL_within 6 = .ok (.istore 4, 2) := by decide +kernel
theorem dL_within_8 : decode cL_within 8 = .ok (.iload 4, 2) := by decide +kernel
theorem dL_within_10 : decode cL_within 10 = .ok (.ifCond .lt 30, 3) := by decide +kernel
theorem dL_within_13 : decode cL_within 13 = .ok (.iload_n 0, 1) := by decide +kernel
theorem dL_within_14 : decode cL_within 14 = .ok (.aload_n 3, 1) := by decide +kernel
theorem dL_within_15 : decode cL_within 15 = .ok (.aload_n 1, 1) := by decide +kernel
theorem dL_within_16 : decode cL_within 16 = .ok (.invokestatic 18, 3) := by decide +kernel
theorem dL_within_19 : decode cL_within 19 = .ok (.astore_n 3, 1) := by decide +kernel
theorem dL_within_20 : decode cL_within 20 = .ok (.aload_n 3, 1) := by decide +kernel
theorem dL_within_21 : decode cL_within 21 = .ok (.iconst 0, 1) := by decide +kernel
theorem dL_within_22 : decode cL_within 22 = .ok (.aload_n 3, 1) := by decide +kernel
theorem dL_within_23 : decode cL_within 23 = .ok (.iconst 0, 1) := by decide +kernel
theorem dL_within_24 : decode cL_within 24 = .ok (.iaload, 1) := by decide +kernel
theorem dL_within_25 : decode cL_within 25 = .ok (.aload_n 2, 1) := by decide +kernel
theorem dL_within_26 : decode cL_within 26 = .ok (.iload 4, 2) := by decide +kernel
theorem dL_within_28 : decode cL_within 28 = .ok (.iaload, 1) := by decide +kernel
theorem dL_within_29 : decode cL_within 29 = .ok (.iadd, 1) := by decide +kernel
theorem dL_within_30 : decode cL_within 30 = .ok (.invokestatic 8, 3) := by decide +kernel
theorem dL_within_33 : decode cL_within 33 = .ok (.iastore, 1) := by decide +kernel
theorem dL_within_34 : decode cL_within 34 = .ok (.iinc 4 (-1), 3) := by decide +kernel
theorem dL_within_37 : decode cL_within 37 = .ok (.goto (-29), 3) := by decide +kernel
theorem dL_within_40 : decode cL_within 40 = .ok (.aload_n 3, 1) := by decide +kernel
theorem dL_within_41 : decode cL_within 41 = .ok (.areturn, 1) := by decide +kernel
theorem dL_exp_0 : decode cL_exp 0 = .ok (.bipush 7, 2) := by decide +kernel
theorem dL_exp_2 : decode cL_exp 2 = .ok (.newarray .int, 2) := by decide +kernel
theorem dL_exp_4 : decode cL_exp 4 = .ok (.astore_n 2, 1) := by decide +kernel
theorem dL_exp_5 : decode cL_exp 5 = .ok (.aload_n 2, 1) := by decide +kernel
theorem dL_exp_6 : decode cL_exp 6 = .ok (.iconst 1, 1) := by decide +kernel
theorem dL_exp_7 : decode cL_exp 7 = .ok (.iconst 1, 1) := by decide +kernel
theorem dL_exp_8 : decode cL_exp 8 = .ok (.iastore, 1) := by decide +kernel
theorem dL_exp_9 : decode cL_exp 9 = .ok (.aload_n 2, 1) := by decide +kernel
theorem dL_exp_10 : decode cL_exp 10 = .ok (.aload_n 2, 1) := by decide +kernel
theorem dL_exp_11 : decode cL_exp 11 = .ok (.iconst 0, 1) := by decide +kernel
theorem dL_exp_12 : decode cL_exp 12 = .ok (.invokestatic 22, 3) := by decide +kernel
theorem dL_exp_15 : decode cL_exp 15 = .ok (.astore_n 3, 1) := by decide +kernel
theorem dL_exp_16 : decode cL_exp 16 = .ok (.iconst 1, 1) := by decide +kernel
theorem dL_exp_17 : decode cL_exp 17 = .ok (.istore 4, 2) := by decide +kernel
theorem dL_exp_19 : decode cL_exp 19 = .ok (.iload 4, 2) := by decide +kernel
theorem dL_exp_21 : decode cL_exp 21 = .ok (.bipush 7, 2) := by decide +kernel
theorem dL_exp_23 : decode cL_exp 23 = .ok (.if_icmp .ge 55, 3) := by decide +kernel
theorem dL_exp_26 : decode cL_exp 26 = .ok (.iload_n 0, 1) := by decide +kernel
theorem dL_exp_27 : decode cL_exp 27 = .ok (.aload_n 1, 1) := by decide +kernel
theorem dL_exp_28 : decode cL_exp 28 = .ok (.aload_n 2, 1) := by decide +kernel
theorem dL_exp_29 : decode cL_exp 29 = .ok (.invokestatic 14, 3) := by decide +kernel
theorem dL_exp_32 : decode cL_exp 32 = .ok (.invokestatic 18, 3) := by decide +kernel
theorem dL_exp_35 : decode cL_exp 35 = .ok (.astore_n 2, 1) := by decide +kernel
theorem dL_exp_36 : decode cL_exp 36 = .ok (.iconst 0, 1) := by decide +kernel
theorem dL_exp_37 : decode cL_exp 37 = .ok (.istore 5, 2) := by decide +kernel
theorem dL_exp_39 : decode cL_exp 39 = .ok (.iload 5, 2) := by decide +kernel
theorem dL_exp_41 : decode cL_exp 41 = .ok (.bipush 7, 2) := by decide +kernel
theorem dL_exp_43 : decode cL_exp 43 = .ok (.if_icmp .ge 22, 3) := by decide +kernel
theorem dL_exp_46 : decode cL_exp 46 = .ok (.aload_n 2, 1) := by decide +kernel
theorem dL_exp_47 : decode cL_exp 47 = .ok (.iload 5, 2) := by decide +kernel
theorem dL_exp_49 : decode cL_exp 49 = .ok (.aload_n 2, 1) := by decide +kernel
theorem dL_exp_50 : decode cL_exp 50 = .ok (.iload 5, 2) := by decide +kernel
theorem dL_exp_52 : decode cL_exp 52 = .ok (.iaload, 1) := by decide +kernel
theorem dL_exp_53 : decode cL_exp 53 = .ok (.iload 4, 2) := by decide +kernel
theorem dL_exp_55 : decode cL_exp 55 = .ok (.invokestatic 26, 3) := by decide +kernel
theorem dL_exp_58 : decode cL_exp 58 = .ok (.iastore, 1) := by decide +kernel
theorem dL_exp_59 : decode cL_exp 59 = .ok (.iinc 5 1, 3) := by decide +kernel
theorem dL_exp_62 : decode cL_exp 62 = .ok (.goto (-23), 3) := by decide +kernel
theorem dL_exp_65 : decode cL_exp 65 = .ok (.aload_n 3, 1) := by decide +kernel
theorem dL_exp_66 : decode cL_exp 66 = .ok (.aload_n 2, 1) := by decide +kernel
theorem dL_exp_67 : decode cL_exp 67 = .ok (.iconst 1, 1) := by decide +kernel
theorem dL_exp_68 : decode cL_exp 68 = .ok (.invokestatic 22, 3) := by decide +kernel
theorem dL_exp_71 : decode cL_exp 71 = .ok (.astore_n 3, 1) := by decide +kernel
