theorem dX0_init_0 : decode cX0_init 0 = .ok (.aload_n 0, 1) := by decide +kernel
theorem dX0_init_1 : decode cX0_init 1 = .ok (.invokespecial 3, 3) := by decide +kernel
theorem dX0_init_4 : decode cX0_init 4 = .ok (.aload_n 0, 1) := by decide +kernel
theorem dX0_init_5 : decode cX0_init 5 = .ok (.bipush 6, 2) := by decide +kernel
theorem dX0_init_7 : decode cX0_init 7 = .ok (.anewarray 9, 3) := by decide +kernel
theorem dX0_init_10 : decode cX0_init 10 = .ok (.putfield 11, 3) := by decide +kernel
theorem dX0_init_13 : decode cX0_init 13 = .ok (.iconst 0, 1) := by decide +kernel
theorem dX0_init_14 : decode cX0_init 14 = .ok (.istore_n 1, 1) := by decide +kernel
theorem dX0_init_15 : decode cX0_init 15 = .ok (.iload_n 1, 1) := by decide +kernel
theorem dX0_init_16 : decode cX0_init 16 = .ok (.bipush 6, 2) := by decide +kernel
theorem dX0_init_18 : decode cX0_init 18 = .ok (.if_icmp .ge 22, 3) := by decide +kernel
theorem dX0_init_21 : decode cX0_init 21 = .ok (.aload_n 0, 1) := by decide +kernel
theorem dX0_init_22 : decode cX0_init 22 = .ok (.getfield 11, 3) := by decide +kernel
theorem dX0_init_25 : decode cX0_init 25 = .ok (.iload_n 1, 1) := by decide +kernel
theorem dX0_init_26 : decode cX0_init 26 = .ok (.new 9, 3) := by decide +kernel
theorem dX0_init_29 : decode cX0_init 29 = .ok (.dup, 1) := by decide +kernel
theorem dX0_init_30 : decode cX0_init 30 = .ok (.invokespecial 17, 3) := by decide +kernel
theorem dX0_init_33 : decode cX0_init 33 = .ok (.aastore, 1) := by decide +kernel
theorem dX0_init_34 : decode cX0_init 34 = .ok (.iinc 1 1, 3) := by decide +kernel
theorem dX0_init_37 : decode cX0_init 37 = .ok (.goto (-22), 3) := by decide +kernel
theorem dX0_init_40 : decode cX0_init 40 = .ok (.return_, 1) := by decide +kernel
theorem dX0_save_0 : decode cX0_save 0 = .ok (.aload_n 0, 1) := by decide +kernel
theorem dX0_save_1 : decode cX0_save 1 = .ok (.getfield 18, 3) := by decide +kernel
theorem dX0_save_4 : decode cX0_save 4 = .ok (.bipush 6, 2) := by decide +kernel
theorem dX0_save_6 : decode cX0_save 6 = .ok (.if_icmp .lt 7, 3) := by decide +kernel
theorem dX0_save_9 : decode cX0_save 9 = .ok (.aload_n 0, 1) := by decide +kernel
theorem dX0_save_10 : decode cX0_save 10 = .ok (.invokevirtual 22, 3) := by decide +kernel
theorem dX0_save_13 : decode cX0_save 13 = .ok (.aload_n 0, 1) := by decide +kernel
theorem dX0_save_14 : decode cX0_save 14 = .ok (.getfield 11, 3) := by decide +kernel
theorem dX0_save_17 : decode cX0_save 17 = .ok (.aload_n 0, 1) := by decide +kernel
theorem dX0_save_18 : decode cX0_save 18 = .ok (.getfield 18, 3) := by decide +kernel
theorem dX0_save_21 : decode cX0_save 21 = .ok (.aaload, 1) := by decide +kernel
theorem dX0_save_22 : decode cX0_save 22 = .ok (.aload_n 1, 1) := by decide +kernel
theorem dX0_save_23 : decode cX0_save 23 = .ok (.invokevirtual 25, 3) := by decide +kernel
theorem dX0_save_26 : decode cX0_save 26 = .ok (.aload_n 0, 1) := by decide +kernel
theorem dX0_save_27 : decode cX0_save 27 = .ok (.dup, 1) := by decide +kernel
theorem dX0_save_28 : decode cX0_save 28 = .ok (.getfield 18, 3) := by decide +kernel
theorem dX0_save_31 : decode cX0_save 31 = .ok (.iconst 1, 1) := by decide +kernel
theorem dX0_save_32 : decode cX0_save 32 = .ok (.iadd, 1) := by decide +kernel
theorem dX0_save_33 : decode cX0_save 33 = .ok (.putfield 18, 3) := by decide +kernel
theorem dX0_save_36 : decode cX0_save 36 = .ok (.return_, 1) := by decide +kernel
theorem dX0_dropOldest_0 : decode cX0_dropOldest 0 = .ok (.aload_n 0, 1) := by decide +kernel
theorem dX0_dropOldest_1 : decode cX0_dropOldest 1 = .ok (.getfield 11, 3) := by decide +kernel
theorem dX0_dropOldest_4 : decode cX0_dropOldest 4 = .ok (.iconst 0, 1) := by decide +kernel
theorem dX0_dropOldest_5 : decode cX0_dropOldest 5 = .ok (.aaload, 1) := by decide +kernel
theorem dX0_dropOldest_6 : decode cX0_dropOldest 6 = .ok (.astore_n 1, 1) := by decide +kernel
theorem dX0_dropOldest_7 : decode cX0_dropOldest 7 = .ok (.iconst 1, 1) := by decide +kernel
theorem dX0_dropOldest_8 : decode cX0_dropOldest 8 = .ok (.istore_n 2, 1) := by decide +kernel
theorem dX0_dropOldest_9 : decode cX0_dropOldest 9 = .ok (.iload_n 2, 1) := by decide +kernel
theorem dX0_dropOldest_10 : decode cX0_dropOldest 10 = .ok (.bipush 6, 2) := by decide +kernel
theorem dX0_dropOldest_12 : decode cX0_dropOldest 12 = .ok (.if_icmp .ge 23, 3) := by decide +kernel
theorem dX0_dropOldest_15 : decode cX0_dropOldest 15 = .ok (.aload_n 0, 1) := by decide +kernel
theorem dX0_dropOldest_16 : decode cX0_dropOldest 16 = .ok (.getfield 11, 3) := by decide +kernel
theorem dX0_dropOldest_19 : decode cX0_dropOldest 19 = .ok (.iload_n 2, 1) := by decide +kernel
theorem dX0_dropOldest_20 : decode cX0_dropOldest 20 = .ok (.iconst 1, 1) := by decide +kernel
theorem dX0_dropOldest_21 : decode cX0_dropOldest 21 = .ok (.isub, 1) := by decide +kernel
theorem dX0_dropOldest_22 : decode cX0_dropOldest 22 = .ok (.aload_n 0, 1) := by decide +kernel
theorem dX0_dropOldest_23 : decode cX0_dropOldest 23 = .ok (.getfield 11, 3) := by decide +kernel
theorem dX0_dropOldest_26 : decode cX0_dropOldest 26 = .ok (.iload_n 2, 1) := by decide +kernel
theorem dX0_dropOldest_27 : decode cX0_dropOldest 27 = .ok (.aaload, 1) := by decide +kernel
theorem dX0_dropOldest_28 : decode cX0_dropOldest 28 = .ok (.aastore, 1) := by decide +kernel
theorem dX0_dropOldest_29 : decode cX0_dropOldest 29 = .ok (.iinc 2 1, 3) := by decide +kernel
theorem dX0_dropOldest_32 : decode cX0_dropOldest 32 = .ok (.goto (-23), 3) := by decide +kernel
theorem dX0_dropOldest_35 : decode cX0_dropOldest 35 = .ok (.aload_n 0, 1) := by decide +kernel
theorem dX0_dropOldest_36 : decode cX0_dropOldest 36 = .ok (.getfield 11, 3) := by decide +kernel
theorem dX0_dropOldest_39 : decode cX0_dropOldest 39 = .ok (.iconst 5, 1) := by decide +kernel
theorem dX0_dropOldest_40 : decode cX0_dropOldest 40 = .ok (.aload_n 1, 1) := by decide +kernel
theorem dX0_dropOldest_41 : decode cX0_dropOldest 41 = .ok (.aastore, 1) := by decide +kernel
theorem dX0_dropOldest_42 : decode cX0_dropOldest 42 = .ok (.aload_n 0, 1) := by decide +kernel
theorem dX0_dropOldest_43 : decode cX0_dropOldest 43 = .ok (.iconst 5, 1) := by decide +kernel
theorem dX0_dropOldest_44 : decode cX0_dropOldest 44 = .ok (.putfield 18, 3) := by decide +kernel
theorem dX0_dropOldest_47 : decode cX0_dropOldest 47 = .ok (.return_, 1) := by decide +kernel
theorem dX0_bringBack_0 : decode cX0_bringBack 0 = .ok (.aload_n 0, 1) := by decide +kernel
theorem dX0_bringBack_1 : decode cX0_bringBack 1 = .ok (.getfield 18, 3) := by decide +kernel
theorem dX0_bringBack_4 : decode cX0_bringBack 4 = .ok (.ifCond .le 26, 3) := by decide +kernel
theorem dX0_bringBack_7 : decode cX0_bringBack 7 = .ok (.aload_n 0, 1) := by decide +kernel
theorem dX0_bringBack_8 : decode cX0_bringBack 8 = .ok (.dup, 1) := by decide +kernel
theorem dX0_bringBack_9 : decode cX0_bringBack 9 = .ok (.getfield 18, 3) := by decide +kernel
theorem dX0_bringBack_12 : decode cX0_bringBack 12 = .ok (.iconst 1, 1) := by decide +kernel
theorem dX0_bringBack_13 : decode cX0_bringBack 13 = .ok (.isub, 1) := by decide +kernel
theorem dX0_bringBack_14 : decode cX0_bringBack 14 = .ok (.putfield 18, 3) := by decide +kernel
theorem dX0_bringBack_17 : decode cX0_bringBack 17 = .ok (.aload_n 1, 1) := by decide +kernel
theorem dX0_bringBack_18 : decode cX0_bringBack 18 = .ok (.aload_n 0, 1) := by decide +kernel
theorem dX0_bringBack_19 : decode cX0_bringBack 19 = .ok (.getfield 11, 3) := by decide +kernel
theorem dX0_bringBack_22 : decode cX0_bringBack 22 = .ok (.aload_n 0, 1) := by decide +kernel
theorem dX0_bringBack_23 : decode cX0_bringBack 23 = .ok (.getfield 18, 3) := by decide +kernel
theorem dX0_bringBack_26 : decode cX0_bringBack 26 = .ok (.aaload, 1) := by decide +kernel
theorem dX0_bringBack_27 : decode cX0_bringBack 27 = .ok (.invokevirtual 25, 3) := by decide +kernel
theorem dX0_bringBack_30 : decode cX0_bringBack 30 = .ok (.return_, 1) := by decide +kernel
theorem dX1_init_0 : decode cX1_init 0 = .ok (.aload_n 0, 1) := by decide +kernel
theorem dX1_init_1 : decode cX1_init 1 = .ok (.invokespecial 3, 3) := by decide +kernel
theorem dX1_init_4 : decode cX1_init 4 = .ok (.aload_n 0, 1) := by decide +kernel
theorem dX1_init_5 : decode cX1_init 5 = .ok (.bipush 7, 2) := by decide +kernel
theorem dX1_init_7 : decode cX1_init 7 = .ok (.newarray .int, 2) := by decide +kernel
theorem dX1_init_9 : decode cX1_init 9 = .ok (.putfield 9, 3) := by decide +kernel
theorem dX1_init_12 : decode cX1_init 12 = .ok (.aload_n 0, 1) := by decide +kernel
theorem dX1_init_13 : decode cX1_init 13 = .ok (.bipush 7, 2) := by decide +kernel
theorem dX1_init_15 : decode cX1_init 15 = .ok (.newarray .int, 2) := by decide +kernel
theorem dX1_init_17 : decode cX1_init 17 = .ok (.putfield 15, 3) := by decide +kernel
theorem dX1_init_20 : decode cX1_init 20 = .ok (.aload_n 0, 1) := by decide +kernel
theorem dX1_init_21 : decode cX1_init 21 = .ok (.bipush 7, 2) := by decide +kernel
theorem dX1_init_23 : decode cX1_init 23 = .ok (.newarray .int, 2) := by decide +kernel
theorem dX1_init_25 : decode cX1_init 25 = .ok (.putfield 18, 3) := by decide +kernel
theorem dX1_init_28 : decode cX1_init 28 = .ok (.aload_n 0, 1) := by decide +kernel
theorem dX1_init_29 : decode cX1_init 29 = .ok (.bipush 7, 2) := by decide +kernel
theorem dX1_init_31 : decode cX1_init 31 = .ok (.newarray .int, 2) := by decide +kernel
theorem dX1_init_33 : decode cX1_init 33 = .ok (.putfield 21, 3) := by decide +kernel
theorem dX1_init_36 : decode cX1_init 36 = .ok (.aload_n 0, 1) := by decide +kernel
theorem dX1_init_37 : decode cX1_init 37 = .ok (.bipush 7, 2) := by decide +kernel
theorem dX1_init_39 : decode cX1_init 39 = .ok (.newarray .int, 2) := by decide +kernel
theorem dX1_init_41 : decode cX1_init 41 = .ok (.putfield 24, 3) := by decide +kernel
theorem dX1_init_44 : decode cX1_init 44 = .ok (.aload_n 0, 1) := by decide +kernel
theorem dX1_init_45 : decode cX1_init 45 = .ok (.bipush 7, 2) := by decide +kernel
theorem dX1_init_47 : decode cX1_init 47 = .ok (.newarray .int, 2) := by decide +kernel
theorem dX1_init_49 : decode cX1_init 49 = .ok (.putfield 27, 3) := by decide +kernel
theorem dX1_init_52 : decode cX1_init 52 = .ok (.aload_n 0, 1) := by decide +kernel
theorem dX1_init_53 : decode cX1_init 53 = .ok (.bipush 7, 2) := by decide +kernel
theorem dX1_init_55 : decode cX1_init 55 = .ok (.newarray .int, 2) := by decide +kernel
theorem dX1_init_57 : decode cX1_init 57 = .ok (.putfield 30, 3) := by decide +kernel
theorem dX1_init_60 : decode cX1_init 60 = .ok (.aload_n 0, 1) := by decide +kernel
theorem dX1_init_61 : decode cX1_init 61 = .ok (.bipush 7, 2) := by decide +kernel
theorem dX1_init_63 : decode cX1_init 63 = .ok (.newarray .int, 2) := by decide +kernel
theorem dX1_init_65 : decode cX1_init 65 = .ok (.putfield 33, 3) := by decide +kernel
theorem dX1_init_68 : decode cX1_init 68 = .ok (.aload_n 0, 1) := by decide +kernel
theorem dX1_init_69 : decode cX1_init 69 = .ok (.bipush 7, 2) := by decide +kernel
theorem dX1_init_71 : decode cX1_init 71 = .ok (.newarray .int, 2) := by decide +kernel
theorem dX1_init_73 : decode cX1_init 73 = .ok (.putfield 36, 3) := by decide +kernel
theorem dX1_init_76 : decode cX1_init 76 = .ok (.aload_n 0, 1) := by decide +kernel
theorem dX1_init_77 : decode cX1_init 77 = .ok (.bipush 7, 2) := by decide +kernel
theorem dX1_init_79 : decode cX1_init 79 = .ok (.newarray .int, 2) := by decide +kernel
theorem dX1_init_81 : decode cX1_init 81 = .ok (.putfield 39, 3) := by decide +kernel
theorem dX1_init_84 : decode cX1_init 84 = .ok (.aload_n 0, 1) := by decide +kernel
theorem dX1_init_85 : decode cX1_init 85 = .ok (.bipush 7, 2) := by decide +kernel
theorem dX1_init_87 : decode cX1_init 87 = .ok (.newarray .int, 2) := by decide +kernel
theorem dX1_init_89 : decode cX1_init 89 = .ok (.putfield 42, 3) := by decide +kernel
theorem dX1_init_92 : decode cX1_init 92 = .ok (.aload_n 0, 1) := by decide +kernel
theorem dX1_init_93 : decode cX1_init 93 = .ok (.bipush 7, 2) := by decide +kernel
theorem dX1_init_95 : decode cX1_init 95 = .ok (.newarray .int, 2) := by decide +kernel
theorem dX1_init_97 : decode cX1_init 97 = .ok (.putfield 45, 3) := by decide +kernel
theorem dX1_init_100 : decode cX1_init 100 = .ok (.aload_n 0, 1) := by decide +kernel
theorem dX1_init_101 : decode cX1_init 101 = .ok (.bipush 7, 2) := by decide +kernel
theorem dX1_init_103 : decode cX1_init 103 = .ok (.newarray .int, 2) := by decide +kernel
theorem dX1_init_105 : decode cX1_init 105 = .ok (.putfield 48, 3) := by decide +kernel
theorem dX1_init_108 : decode cX1_init 108 = .ok (.aload_n 0, 1) := by decide +kernel
theorem dX1_init_109 : decode cX1_init 109 = .ok (.bipush 7, 2) := by decide +kernel
theorem dX1_init_111 : decode cX1_init 111 = .ok (.newarray .int, 2) := by decide +kernel
theorem dX1_init_113 : decode cX1_init 113 = .ok (.putfield 51, 3) := by decide +kernel
theorem dX1_init_116 : decode cX1_init 116 = .ok (.return_, 1) := by decide +kernel
theorem dX1_lowestPower_0 : decode cX1_lowestPower 0 = .ok (.iconst 2, 1) := by decide +kernel
theorem dX1_lowestPower_1 : decode cX1_lowestPower 1 = .ok (.istore_n 1, 1) := by decide +kernel
theorem dX1_lowestPower_2 : decode cX1_lowestPower 2 = .ok (.iload_n 1, 1) := by decide +kernel
theorem dX1_lowestPower_3 : decode cX1_lowestPower 3 = .ok (.bipush 6, 2) := by decide +kernel
theorem dX1_lowestPower_5 : decode cX1_lowestPower 5 = .ok (.if_icmp .gt 17, 3) := by decide +kernel
theorem dX1_lowestPower_8 : decode cX1_lowestPower 8 = .ok (.aload_n 0, 1) := by decide +kernel
theorem dX1_lowestPower_9 : decode cX1_lowestPower 9 = .ok (.iload_n 1, 1) := by decide +kernel
theorem dX1_lowestPower_10 : decode cX1_lowestPower 10 = .ok (.iaload, 1) := by decide +kernel
theorem dX1_lowestPower_11 : decode cX1_lowestPower 11 = .ok (.ifCond .eq 5, 3) := by decide +kernel
theorem dX1_lowestPower_14 : decode cX1_lowestPower 14 = .ok (.iload_n 1, 1) := by decide +kernel
theorem dX1_lowestPower_15 : decode cX1_lowestPower 15 = .ok (.ireturn, 1) := by decide +kernel
theorem dX1_lowestPower_16 : decode cX1_lowestPower 16 = .ok (.iinc 1 1, 3) := by decide +kernel
theorem dX1_lowestPower_19 : decode cX1_lowestPower 19 = .ok (.goto (-17), 3) := by decide +kernel
theorem dX1_lowestPower_22 : decode cX1_lowestPower 22 = .ok (.iconst (-1), 1) := by decide +kernel
theorem dX1_lowestPower_23 : decode cX1_lowestPower 23 = .ok (.ireturn, 1) := by decide +kernel
theorem dX1_lowestDifference_0 : decode cX1_lowestDifference 0 = .ok (.iconst 2, 1) := by decide +kernel
theorem dX1_lowestDifference_1 : decode cX1_lowestDifference 1 = .ok (.istore_n 2, 1) := by decide +kernel
theorem dX1_lowestDifference_2 : decode cX1_lowestDifference 2 = .ok (.iload_n 2, 1) := by decide +kernel
theorem dX1_lowestDifference_3 : decode cX1_lowestDifference 3 = .ok (.bipush 6, 2) := by decide +kernel
theorem dX1_lowestDifference_5 : decode cX1_lowestDifference 5 = .ok (.if_icmp .gt 20, 3) := by decide +kernel
theorem dX1_lowestDifference_8 : decode cX1_lowestDifference 8 = .ok (.aload_n 0, 1) := by decide +kernel
theorem dX1_lowestDifference_9 : decode cX1_lowestDifference 9 = .ok (.iload_n 2, 1) := by decide +kernel
theorem dX1_lowestDifference_10 : decode cX1_lowestDifference 10 = .ok (.iaload, 1) := by decide +kernel
theorem dX1_lowestDifference_11 : decode cX1_lowestDifference 11 = .ok (.aload_n 1, 1) := by decide +kernel
theorem dX1_lowestDifference_12 : decode cX1_lowestDifference 12 = .ok (.iload_n 2, 1) := by decide +kernel
theorem dX1_lowestDifference_13 : decode cX1_lowestDifference 13 = .ok (.iaload, 1) := by decide +kernel
theorem dX1_lowestDifference_14 : decode cX1_lowestDifference 14 = .ok (.if_icmp .eq 5, 3) := by decide +kernel
theorem dX1_lowestDifference_17 : decode cX1_lowestDifference 17 = .ok (.iload_n 2, 1) := by decide +kernel
theorem dX1_lowestDifference_18 : decode cX1_lowestDifference 18 = .ok (.ireturn, 1) := by decide +kernel
theorem dX1_lowestDifference_19 : decode cX1_lowestDifference 19 = .ok (.iinc 2 1, 3) := by decide +kernel
theorem dX1_lowestDifference_22 : decode cX1_lowestDifference 22 = .ok (.goto (-20), 3) := by decide +kernel
theorem dX1_lowestDifference_25 : decode cX1_lowestDifference 25 = .ok (.iconst (-1), 1) := by decide +kernel
theorem dX1_lowestDifference_26 : decode cX1_lowestDifference 26 = .ok (.ireturn, 1) := by decide +kernel
theorem dX1_valueAt_0 : decode cX1_valueAt 0 = .ok (.lconst 0, 1) := by decide +kernel
theorem dX1_valueAt_1 : decode cX1_valueAt 1 = .ok (.lstore_n 2, 1) := by decide +kernel
theorem dX1_valueAt_2 : decode cX1_valueAt 2 = .ok (.bipush 6, 2) := by decide +kernel
theorem dX1_valueAt_4 : decode cX1_valueAt 4 = .ok (.istore 4, 2) := by decide +kernel
theorem dX1_valueAt_6 : decode cX1_valueAt 6 = .ok (.iload 4, 2) := by decide +kernel
theorem dX1_valueAt_8 : decode cX1_valueAt 8 = .ok (.ifCond .lt 24, 3) := by decide +kernel
theorem dX1_valueAt_11 : decode cX1_valueAt 11 = .ok (.lload_n 2, 1) := by decide +kernel
theorem dX1_valueAt_12 : decode cX1_valueAt 12 = .ok (.iload_n 1, 1) := by decide +kernel
theorem dX1_valueAt_13 : decode cX1_valueAt 13 = .ok (.i2l, 1) := by decide +kernel
theorem dX1_valueAt_14 : decode cX1_valueAt 14 = .ok (.lmul, 1) := by decide +kernel
theorem dX1_valueAt_15 : decode cX1_valueAt 15 = .ok (.aload_n 0, 1) := by decide +kernel
theorem dX1_valueAt_16 : decode cX1_valueAt 16 = .ok (.iload 4, 2) := by decide +kernel
theorem dX1_valueAt_18 : decode cX1_valueAt 18 = .ok (.iaload, 1) := by decide +kernel
theorem dX1_valueAt_19 : decode cX1_valueAt 19 = .ok (.i2l, 1) := by decide +kernel
theorem dX1_valueAt_20 : decode cX1_valueAt 20 = .ok (.ladd, 1) := by decide +kernel
theorem dX1_valueAt_21 : decode cX1_valueAt 21 = .ok (.ldc2_w 54, 3) := by decide +kernel
theorem dX1_valueAt_24 : decode cX1_valueAt 24 = .ok (.lrem, 1) := by decide +kernel
theorem dX1_valueAt_25 : decode cX1_valueAt 25 = .ok (.lstore_n 2, 1) := by decide +kernel
theorem dX1_valueAt_26 : decode cX1_valueAt 26 = .ok (.iinc 4 (-1), 3) := by decide +kernel
theorem dX1_valueAt_29 : decode cX1_valueAt 29 = .ok (.goto (-23), 3) := by decide +kernel
theorem dX1_valueAt_32 : decode cX1_valueAt 32 = .ok (.lload_n 2, 1) := by decide +kernel
theorem dX1_valueAt_33 : decode cX1_valueAt 33 = .ok (.l2i, 1) := by decide +kernel
theorem dX1_valueAt_34 : decode cX1_valueAt 34 = .ok (.ireturn, 1) := by decide +kernel
theorem dX1_inverseOf_0 : decode cX1_inverseOf 0 = .ok (.lconst 1, 1) := by decide +kernel
theorem dX1_inverseOf_1 : decode cX1_inverseOf 1 = .ok (.lstore_n 1, 1) := by decide +kernel
theorem dX1_inverseOf_2 : decode cX1_inverseOf 2 = .ok (.iload_n 0, 1) := by decide +kernel
theorem dX1_inverseOf_3 : decode cX1_inverseOf 3 = .ok (.sipush 10007, 3) := by decide +kernel
theorem dX1_inverseOf_6 : decode cX1_inverseOf 6 = .ok (.invokestatic 56, 3) := by decide +kernel
theorem dX1_inverseOf_9 : decode cX1_inverseOf 9 = .ok (.i2l, 1) := by decide +kernel
theorem dX1_inverseOf_10 : decode cX1_inverseOf 10 = .ok (.lstore_n 3, 1) := by decide +kernel
theorem dX1_inverseOf_11 : decode cX1_inverseOf 11 = .ok (.iconst 0, 1) := by decide +kernel
theorem dX1_inverseOf_12 : decode cX1_inverseOf 12 = .ok (.istore 5, 2) := by decide +kernel
theorem dX1_inverseOf_14 : decode cX1_inverseOf 14 = .ok (.iload 5, 2) := by decide +kernel
theorem dX1_inverseOf_16 : decode cX1_inverseOf 16 = .ok (.bipush 14, 2) := by decide +kernel
theorem dX1_inverseOf_18 : decode cX1_inverseOf 18 = .ok (.if_icmp .ge 37, 3) := by decide +kernel
theorem dX1_inverseOf_21 : decode cX1_inverseOf 21 = .ok (.sipush 10005, 3) := by decide +kernel
theorem dX1_inverseOf_24 : decode cX1_inverseOf 24 = .ok (.iload 5, 2) := by decide +kernel
theorem dX1_inverseOf_26 : decode cX1_inverseOf 26 = .ok (.ishr, 1) := by decide +kernel
theorem dX1_inverseOf_27 : decode cX1_inverseOf 27 = .ok (.iconst 1, 1) := by decide +kernel
theorem dX1_inverseOf_28 : decode cX1_inverseOf 28 = .ok (.iand, 1) := by decide +kernel
theorem dX1_inverseOf_29 : decode cX1_inverseOf 29 = .ok (.iconst 1, 1) := by decide +kernel
theorem dX1_inverseOf_30 : decode cX1_inverseOf 30 = .ok (.if_icmp .ne 11, 3) := by decide +kernel
theorem dX1_inverseOf_33 : decode cX1_inverseOf 33 = .ok (.lload_n 1, 1) := by decide +kernel
theorem dX1_inverseOf_34 : decode cX1_inverseOf 34 = .ok (.lload_n 3, 1) := by decide +kernel
theorem dX1_inverseOf_35 : decode cX1_inverseOf 35 = .ok (.lmul, 1) := by decide +kernel
theorem dX1_inverseOf_36 : decode cX1_inverseOf 36 = .ok (.ldc2_w 54, 3) := by decide +kernel
theorem dX1_inverseOf_39 : decode cX1_inverseOf 39 = .ok (.lrem, 1) := by decide +kernel
theorem dX1_inverseOf_40 : decode cX1_inverseOf 40 = .ok (.lstore_n 1, 1) := by decide +kernel
theorem dX1_inverseOf_41 : decode cX1_inverseOf 41 = .ok (.lload_n 3, 1) := by decide +kernel
theorem dX1_inverseOf_42 : decode cX1_inverseOf 42 = .ok (.lload_n 3, 1) := by decide +kernel
theorem dX1_inverseOf_43 : decode cX1_inverseOf 43 = .ok (.lmul, 1) := by decide +kernel
theorem dX1_inverseOf_44 : decode cX1_inverseOf 44 = .ok (.ldc2_w 54, 3) := by decide +kernel
theorem dX1_inverseOf_47 : decode cX1_inverseOf 47 = .ok (.lrem, 1) := by decide +kernel
theorem dX1_inverseOf_48 : decode cX1_inverseOf 48 = .ok (.lstore_n 3, 1) := by decide +kernel
theorem dX1_inverseOf_49 : decode cX1_inverseOf 49 = .ok (.iinc 5 1, 3) := by decide +kernel
theorem dX1_inverseOf_52 : decode cX1_inverseOf 52 = .ok (.goto (-38), 3) := by decide +kernel
theorem dX1_inverseOf_55 : decode cX1_inverseOf 55 = .ok (.lload_n 1, 1) := by decide +kernel
theorem dX1_inverseOf_56 : decode cX1_inverseOf 56 = .ok (.l2i, 1) := by decide +kernel
theorem dX1_inverseOf_57 : decode cX1_inverseOf 57 = .ok (.ireturn, 1) := by decide +kernel
theorem dX1_addRows_0 : decode cX1_addRows 0 = .ok (.iconst 0, 1) := by decide +kernel
theorem dX1_addRows_1 : decode cX1_addRows 1 = .ok (.istore_n 3, 1) := by decide +kernel
theorem dX1_addRows_2 : decode cX1_addRows 2 = .ok (.iload_n 3, 1) := by decide +kernel
theorem dX1_addRows_3 : decode cX1_addRows 3 = .ok (.bipush 6, 2) := by decide +kernel
theorem dX1_addRows_5 : decode cX1_addRows 5 = .ok (.if_icmp .gt 23, 3) := by decide +kernel
theorem dX1_addRows_8 : decode cX1_addRows 8 = .ok (.aload_n 2, 1) := by decide +kernel
theorem dX1_addRows_9 : decode cX1_addRows 9 = .ok (.iload_n 3, 1) := by decide +kernel
theorem dX1_addRows_10 : decode cX1_addRows 10 = .ok (.aload_n 0, 1) := by decide +kernel
theorem dX1_addRows_11 : decode cX1_addRows 11 = .ok (.iload_n 3, 1) := by decide +kernel
theorem dX1_addRows_12 : decode cX1_addRows 12 = .ok (.iaload, 1) := by decide +kernel
theorem dX1_addRows_13 : decode cX1_addRows 13 = .ok (.aload_n 1, 1) := by decide +kernel
theorem dX1_addRows_14 : decode cX1_addRows 14 = .ok (.iload_n 3, 1) := by decide +kernel
theorem dX1_addRows_15 : decode cX1_addRows 15 = .ok (.iaload, 1) := by decide +kernel
theorem dX1_addRows_16 : decode cX1_addRows 16 = .ok (.iadd, 1) := by decide +kernel
theorem dX1_addRows_17 : decode cX1_addRows 17 = .ok (.sipush 10007, 3) := by decide +kernel
theorem dX1_addRows_20 : decode cX1_addRows 20 = .ok (.irem, 1) := by decide +kernel
theorem dX1_addRows_21 : decode cX1_addRows 21 = .ok (.iastore, 1) := by decide +kernel
theorem dX1_addRows_22 : decode cX1_addRows 22 = .ok (.iinc 3 1, 3) := by decide +kernel
theorem dX1_addRows_25 : decode cX1_addRows 25 = .ok (.goto (-23), 3) := by decide +kernel
theorem dX1_addRows_28 : decode cX1_addRows 28 = .ok (.return_, 1) := by decide +kernel
theorem dX1_scaleRow_0 : decode cX1_scaleRow 0 = .ok (.iconst 0, 1) := by decide +kernel
theorem dX1_scaleRow_1 : decode cX1_scaleRow 1 = .ok (.istore_n 3, 1) := by decide +kernel
theorem dX1_scaleRow_2 : decode cX1_scaleRow 2 = .ok (.iload_n 3, 1) := by decide +kernel
theorem dX1_scaleRow_3 : decode cX1_scaleRow 3 = .ok (.bipush 6, 2) := by decide +kernel
theorem dX1_scaleRow_5 : decode cX1_scaleRow 5 = .ok (.if_icmp .gt 24, 3) := by decide +kernel
theorem dX1_scaleRow_8 : decode cX1_scaleRow 8 = .ok (.aload_n 2, 1) := by decide +kernel
theorem dX1_scaleRow_9 : decode cX1_scaleRow 9 = .ok (.iload_n 3, 1) := by decide +kernel
theorem dX1_scaleRow_10 : decode cX1_scaleRow 10 = .ok (.aload_n 0, 1) := by decide +kernel
theorem dX1_scaleRow_11 : decode cX1_scaleRow 11 = .ok (.iload_n 3, 1) := by decide +kernel
theorem dX1_scaleRow_12 : decode cX1_scaleRow 12 = .ok (.iaload, 1) := by decide +kernel
theorem dX1_scaleRow_13 : decode cX1_scaleRow 13 = .ok (.i2l, 1) := by decide +kernel
theorem dX1_scaleRow_14 : decode cX1_scaleRow 14 = .ok (.iload_n 1, 1) := by decide +kernel
theorem dX1_scaleRow_15 : decode cX1_scaleRow 15 = .ok (.i2l, 1) := by decide +kernel
theorem dX1_scaleRow_16 : decode cX1_scaleRow 16 = .ok (.lmul, 1) := by decide +kernel
theorem dX1_scaleRow_17 : decode cX1_scaleRow 17 = .ok (.ldc2_w 54, 3) := by decide +kernel
theorem dX1_scaleRow_20 : decode cX1_scaleRow 20 = .ok (.lrem, 1) := by decide +kernel
theorem dX1_scaleRow_21 : decode cX1_scaleRow 21 = .ok (.l2i, 1) := by decide +kernel
theorem dX1_scaleRow_22 : decode cX1_scaleRow 22 = .ok (.iastore, 1) := by decide +kernel
theorem dX1_scaleRow_23 : decode cX1_scaleRow 23 = .ok (.iinc 3 1, 3) := by decide +kernel
theorem dX1_scaleRow_26 : decode cX1_scaleRow 26 = .ok (.goto (-24), 3) := by decide +kernel
theorem dX1_scaleRow_29 : decode cX1_scaleRow 29 = .ok (.return_, 1) := by decide +kernel
theorem dX1_addMultiple_0 : decode cX1_addMultiple 0 = .ok (.iconst 0, 1) := by decide +kernel
theorem dX1_addMultiple_1 : decode cX1_addMultiple 1 = .ok (.istore_n 3, 1) := by decide +kernel
theorem dX1_addMultiple_2 : decode cX1_addMultiple 2 = .ok (.iload_n 3, 1) := by decide +kernel
theorem dX1_addMultiple_3 : decode cX1_addMultiple 3 = .ok (.bipush 6, 2) := by decide +kernel
theorem dX1_addMultiple_5 : decode cX1_addMultiple 5 = .ok (.if_icmp .gt 29, 3) := by decide +kernel
theorem dX1_addMultiple_8 : decode cX1_addMultiple 8 = .ok (.aload_n 0, 1) := by decide +kernel
theorem dX1_addMultiple_9 : decode cX1_addMultiple 9 = .ok (.iload_n 3, 1) := by decide +kernel
theorem dX1_addMultiple_10 : decode cX1_addMultiple 10 = .ok (.aload_n 0, 1) := by decide +kernel
theorem dX1_addMultiple_11 : decode cX1_addMultiple 11 = .ok (.iload_n 3, 1) := by decide +kernel
theorem dX1_addMultiple_12 : decode cX1_addMultiple 12 = .ok (.iaload, 1) := by decide +kernel
theorem dX1_addMultiple_13 : decode cX1_addMultiple 13 = .ok (.i2l, 1) := by decide +kernel
theorem dX1_addMultiple_14 : decode cX1_addMultiple 14 = .ok (.aload_n 1, 1) := by decide +kernel
theorem dX1_addMultiple_15 : decode cX1_addMultiple 15 = .ok (.iload_n 3, 1) := by decide +kernel
theorem dX1_addMultiple_16 : decode cX1_addMultiple 16 = .ok (.iaload, 1) := by decide +kernel
theorem dX1_addMultiple_17 : decode cX1_addMultiple 17 = .ok (.i2l, 1) := by decide +kernel
theorem dX1_addMultiple_18 : decode cX1_addMultiple 18 = .ok (.iload_n 2, 1) := by decide +kernel
theorem dX1_addMultiple_19 : decode cX1_addMultiple 19 = .ok (.i2l, 1) := by decide +kernel
theorem dX1_addMultiple_20 : decode cX1_addMultiple 20 = .ok (.lmul, 1) := by decide +kernel
theorem dX1_addMultiple_21 : decode cX1_addMultiple 21 = .ok (.ladd, 1) := by decide +kernel
theorem dX1_addMultiple_22 : decode cX1_addMultiple 22 = .ok (.ldc2_w 54, 3) := by decide +kernel
theorem dX1_addMultiple_25 : decode cX1_addMultiple 25 = .ok (.lrem, 1) := by decide +kernel
theorem dX1_addMultiple_26 : decode cX1_addMultiple 26 = .ok (.l2i, 1) := by decide +kernel
theorem dX1_addMultiple_27 : decode cX1_addMultiple 27 = .ok (.iastore, 1) := by decide +kernel
theorem dX1_addMultiple_28 : decode cX1_addMultiple 28 = .ok (.iinc 3 1, 3) := by decide +kernel
theorem dX1_addMultiple_31 : decode cX1_addMultiple 31 = .ok (.goto (-29), 3) := by decide +kernel
theorem dX1_addMultiple_34 : decode cX1_addMultiple 34 = .ok (.return_, 1) := by decide +kernel
theorem dX1_makeX_0 : decode cX1_makeX 0 = .ok (.aload_n 0, 1) := by decide +kernel
theorem dX1_makeX_1 : decode cX1_makeX 1 = .ok (.iconst 0, 1) := by decide +kernel
theorem dX1_makeX_2 : decode cX1_makeX 2 = .ok (.invokestatic 62, 3) := by decide +kernel
theorem dX1_makeX_5 : decode cX1_makeX 5 = .ok (.aload_n 0, 1) := by decide +kernel
theorem dX1_makeX_6 : decode cX1_makeX 6 = .ok (.iconst 1, 1) := by decide +kernel
theorem dX1_makeX_7 : decode cX1_makeX 7 = .ok (.iconst 1, 1) := by decide +kernel
theorem dX1_makeX_8 : decode cX1_makeX 8 = .ok (.iastore, 1) := by decide +kernel
theorem dX1_makeX_9 : decode cX1_makeX 9 = .ok (.return_, 1) := by decide +kernel
theorem dX1_act_0 : decode cX1_act 0 = .ok (.aload_n 3, 1) := by decide +kernel
theorem dX1_act_1 : decode cX1_act 1 = .ok (.iconst 0, 1) := by decide +kernel
theorem dX1_act_2 : decode cX1_act 2 = .ok (.invokestatic 62, 3) := by decide +kernel
theorem dX1_act_5 : decode cX1_act 5 = .ok (.iconst 2, 1) := by decide +kernel
theorem dX1_act_6 : decode cX1_act 6 = .ok (.istore 4, 2) := by decide +kernel
theorem dX1_act_8 : decode cX1_act 8 = .ok (.iload 4, 2) := by decide +kernel
theorem dX1_act_10 : decode cX1_act 10 = .ok (.iload_n 2, 1) := by decide +kernel
theorem dX1_act_11 : decode cX1_act 11 = .ok (.if_icmp .gt 68, 3) := by decide +kernel
theorem dX1_act_14 : decode cX1_act 14 = .ok (.lconst 0, 1) := by decide +kernel
theorem dX1_act_15 : decode cX1_act 15 = .ok (.lstore 5, 2) := by decide +kernel
theorem dX1_act_17 : decode cX1_act 17 = .ok (.iconst 2, 1) := by decide +kernel
theorem dX1_act_18 : decode cX1_act 18 = .ok (.istore 7, 2) := by decide +kernel
theorem dX1_act_20 : decode cX1_act 20 = .ok (.iload 7, 2) := by decide +kernel
theorem dX1_act_22 : decode cX1_act 22 = .ok (.iload 4, 2) := by decide +kernel
theorem dX1_act_24 : decode cX1_act 24 = .ok (.if_icmp .gt 38, 3) := by decide +kernel
theorem dX1_act_27 : decode cX1_act 27 = .ok (.iload 4, 2) := by decide +kernel
theorem dX1_act_29 : decode cX1_act 29 = .ok (.iload 7, 2) := by decide +kernel
theorem dX1_act_31 : decode cX1_act 31 = .ok (.isub, 1) := by decide +kernel
theorem dX1_act_32 : decode cX1_act 32 = .ok (.iconst 1, 1) := by decide +kernel
theorem dX1_act_33 : decode cX1_act 33 = .ok (.iadd, 1) := by decide +kernel
theorem dX1_act_34 : decode cX1_act 34 = .ok (.istore 8, 2) := by decide +kernel
theorem dX1_act_36 : decode cX1_act 36 = .ok (.lload 5, 2) := by decide +kernel
theorem dX1_act_38 : decode cX1_act 38 = .ok (.aload_n 0, 1) := by decide +kernel
theorem dX1_act_39 : decode cX1_act 39 = .ok (.iload 7, 2) := by decide +kernel
theorem dX1_act_41 : decode cX1_act 41 = .ok (.iaload, 1) := by decide +kernel
theorem dX1_act_42 : decode cX1_act 42 = .ok (.i2l, 1) := by decide +kernel
theorem dX1_act_43 : decode cX1_act 43 = .ok (.aload_n 1, 1) := by decide +kernel
theorem dX1_act_44 : decode cX1_act 44 = .ok (.iload 8, 2) := by decide +kernel
theorem dX1_act_46 : decode cX1_act 46 = .ok (.iaload, 1) := by decide +kernel
theorem dX1_act_47 : decode cX1_act 47 = .ok (.i2l, 1) := by decide +kernel
theorem dX1_act_48 : decode cX1_act 48 = .ok (.lmul, 1) := by decide +kernel
theorem dX1_act_49 : decode cX1_act 49 = .ok (.iload 8, 2) := by decide +kernel
theorem dX1_act_51 : decode cX1_act 51 = .ok (.i2l, 1) := by decide +kernel
theorem dX1_act_52 : decode cX1_act 52 = .ok (.lmul, 1) := by decide +kernel
theorem dX1_act_53 : decode cX1_act 53 = .ok (.ladd, 1) := by decide +kernel
theorem dX1_act_54 : decode cX1_act 54 = .ok (.lstore 5, 2) := by decide +kernel
theorem dX1_act_56 : decode cX1_act 56 = .ok (.iinc 7 1, 3) := by decide +kernel
theorem dX1_act_59 : decode cX1_act 59 = .ok (.goto (-39), 3) := by decide +kernel
theorem dX1_act_62 : decode cX1_act 62 = .ok (.aload_n 3, 1) := by decide +kernel
theorem dX1_act_63 : decode cX1_act 63 = .ok (.iload 4, 2) := by decide +kernel
theorem dX1_act_65 : decode cX1_act 65 = .ok (.lload 5, 2) := by decide +kernel
theorem dX1_act_67 : decode cX1_act 67 = .ok (.ldc2_w 54, 3) := by decide +kernel
theorem dX1_act_70 : decode cX1_act 70 = .ok (.lrem, 1) := by decide +kernel
theorem dX1_act_71 : decode cX1_act 71 = .ok (.l2i, 1) := by decide +kernel
theorem dX1_act_72 : decode cX1_act 72 = .ok (.iastore, 1) := by decide +kernel
theorem dX1_act_73 : decode cX1_act 73 = .ok (.iinc 4 1, 3) := by decide +kernel
theorem dX1_act_76 : decode cX1_act 76 = .ok (.goto (-68), 3) := by decide +kernel
theorem dX1_act_79 : decode cX1_act 79 = .ok (.return_, 1) := by decide +kernel
theorem dX1_multiply_0 : decode cX1_multiply 0 = .ok (.iconst 0, 1) := by decide +kernel
theorem dX1_multiply_1 : decode cX1_multiply 1 = .ok (.istore 4, 2) := by decide +kernel
theorem dX1_multiply_3 : decode cX1_multiply 3 = .ok (.iload 4, 2) := by decide +kernel
theorem dX1_multiply_5 : decode cX1_multiply 5 = .ok (.iload_n 2, 1) := by decide +kernel
theorem dX1_multiply_6 : decode cX1_multiply 6 = .ok (.if_icmp .gt 58, 3) := by decide +kernel
theorem dX1_multiply_9 : decode cX1_multiply 9 = .ok (.lconst 0, 1) := by decide +kernel
theorem dX1_multiply_10 : decode cX1_multiply 10 = .ok (.lstore 5, 2) := by decide +kernel
theorem dX1_multiply_12 : decode cX1_multiply 12 = .ok (.iconst 0, 1) := by decide +kernel
theorem dX1_multiply_13 : decode cX1_multiply 13 = .ok (.istore 7, 2) := by decide +kernel
theorem dX1_multiply_15 : decode cX1_multiply 15 = .ok (.iload 7, 2) := by decide +kernel
theorem dX1_multiply_17 : decode cX1_multiply 17 = .ok (.iload 4, 2) := by decide +kernel
theorem dX1_multiply_19 : decode cX1_multiply 19 = .ok (.if_icmp .gt 28, 3) := by decide +kernel
theorem dX1_multiply_22 : decode cX1_multiply 22 = .ok (.lload 5, 2) := by decide +kernel
theorem dX1_multiply_24 : decode cX1_multiply 24 = .ok (.aload_n 0, 1) := by decide +kernel
theorem dX1_multiply_25 : decode cX1_multiply 25 = .ok (.iload 7, 2) := by decide +kernel
theorem dX1_multiply_27 : decode cX1_multiply 27 = .ok (.iaload, 1) := by decide +kernel
theorem dX1_multiply_28 : decode cX1_multiply 28 = .ok (.i2l, 1) := by decide +kernel
theorem dX1_multiply_29 : decode cX1_multiply 29 = .ok (.aload_n 1, 1) := by decide +kernel
theorem dX1_multiply_30 : decode cX1_multiply 30 = .ok (.iload 4, 2) := by decide +kernel
theorem dX1_multiply_32 : decode cX1_multiply 32 = .ok (.iload 7, 2) := by decide +kernel
theorem dX1_multiply_34 : decode cX1_multiply 34 = .ok (.isub, 1) := by decide +kernel
theorem dX1_multiply_35 : decode cX1_multiply 35 = .ok (.iaload, 1) := by decide +kernel
theorem dX1_multiply_36 : decode cX1_multiply 36 = .ok (.i2l, 1) := by decide +kernel
theorem dX1_multiply_37 : decode cX1_multiply 37 = .ok (.lmul, 1) := by decide +kernel
theorem dX1_multiply_38 : decode cX1_multiply 38 = .ok (.ladd, 1) := by decide +kernel
theorem dX1_multiply_39 : decode cX1_multiply 39 = .ok (.lstore 5, 2) := by decide +kernel
theorem dX1_multiply_41 : decode cX1_multiply 41 = .ok (.iinc 7 1, 3) := by decide +kernel
theorem dX1_multiply_44 : decode cX1_multiply 44 = .ok (.goto (-29), 3) := by decide +kernel
theorem dX1_multiply_47 : decode cX1_multiply 47 = .ok (.aload_n 3, 1) := by decide +kernel
theorem dX1_multiply_48 : decode cX1_multiply 48 = .ok (.iload 4, 2) := by decide +kernel
theorem dX1_multiply_50 : decode cX1_multiply 50 = .ok (.lload 5, 2) := by decide +kernel
theorem dX1_multiply_52 : decode cX1_multiply 52 = .ok (.ldc2_w 54, 3) := by decide +kernel
theorem dX1_multiply_55 : decode cX1_multiply 55 = .ok (.lrem, 1) := by decide +kernel
theorem dX1_multiply_56 : decode cX1_multiply 56 = .ok (.l2i, 1) := by decide +kernel
theorem dX1_multiply_57 : decode cX1_multiply 57 = .ok (.iastore, 1) := by decide +kernel
theorem dX1_multiply_58 : decode cX1_multiply 58 = .ok (.iinc 4 1, 3) := by decide +kernel
theorem dX1_multiply_61 : decode cX1_multiply 61 = .ok (.goto (-58), 3) := by decide +kernel
theorem dX1_multiply_64 : decode cX1_multiply 64 = .ok (.return_, 1) := by decide +kernel
theorem dX1_takeBracket_0 : decode cX1_takeBracket 0 = .ok (.aload_n 1, 1) := by decide +kernel
theorem dX1_takeBracket_1 : decode cX1_takeBracket 1 = .ok (.aload_n 2, 1) := by decide +kernel
theorem dX1_takeBracket_2 : decode cX1_takeBracket 2 = .ok (.iload_n 3, 1) := by decide +kernel
theorem dX1_takeBracket_3 : decode cX1_takeBracket 3 = .ok (.aload 4, 2) := by decide +kernel
theorem dX1_takeBracket_5 : decode cX1_takeBracket 5 = .ok (.invokestatic 68, 3) := by decide +kernel
theorem dX1_takeBracket_8 : decode cX1_takeBracket 8 = .ok (.aload_n 2, 1) := by decide +kernel
theorem dX1_takeBracket_9 : decode cX1_takeBracket 9 = .ok (.aload_n 1, 1) := by decide +kernel
theorem dX1_takeBracket_10 : decode cX1_takeBracket 10 = .ok (.iload_n 3, 1) := by decide +kernel
theorem dX1_takeBracket_11 : decode cX1_takeBracket 11 = .ok (.aload_n 0, 1) := by decide +kernel
theorem dX1_takeBracket_12 : decode cX1_takeBracket 12 = .ok (.getfield 9, 3) := by decide +kernel
theorem dX1_takeBracket_15 : decode cX1_takeBracket 15 = .ok (.invokestatic 68, 3) := by decide +kernel
theorem dX1_takeBracket_18 : decode cX1_takeBracket 18 = .ok (.aload 4, 2) := by decide +kernel
theorem dX1_takeBracket_20 : decode cX1_takeBracket 20 = .ok (.aload_n 0, 1) := by decide +kernel
theorem dX1_takeBracket_21 : decode cX1_takeBracket 21 = .ok (.getfield 9, 3) := by decide +kernel
theorem dX1_takeBracket_24 : decode cX1_takeBracket 24 = .ok (.sipush 10006, 3) := by decide +kernel
theorem dX1_takeBracket_27 : decode cX1_takeBracket 27 = .ok (.invokestatic 72, 3) := by decide +kernel
theorem dX1_takeBracket_30 : decode cX1_takeBracket 30 = .ok (.return_, 1) := by decide +kernel
theorem dX1_exponential_0 : decode cX1_exponential 0 = .ok (.aload_n 3, 1) := by decide +kernel
theorem dX1_exponential_1 : decode cX1_exponential 1 = .ok (.invokestatic 76, 3) := by decide +kernel
theorem dX1_exponential_4 : decode cX1_exponential 4 = .ok (.aload_n 0, 1) := by decide +kernel
theorem dX1_exponential_5 : decode cX1_exponential 5 = .ok (.getfield 15, 3) := by decide +kernel
theorem dX1_exponential_8 : decode cX1_exponential 8 = .ok (.invokestatic 76, 3) := by decide +kernel
theorem dX1_exponential_11 : decode cX1_exponential 11 = .ok (.iconst 1, 1) := by decide +kernel
theorem dX1_exponential_12 : decode cX1_exponential 12 = .ok (.istore 4, 2) := by decide +kernel
theorem dX1_exponential_14 : decode cX1_exponential 14 = .ok (.iload 4, 2) := by decide +kernel
theorem dX1_exponential_16 : decode cX1_exponential 16 = .ok (.iload_n 2, 1) := by decide +kernel
theorem dX1_exponential_17 : decode cX1_exponential 17 = .ok (.if_icmp .ge 57, 3) := by decide +kernel
theorem dX1_exponential_20 : decode cX1_exponential 20 = .ok (.iload 4, 2) := by decide +kernel
theorem dX1_exponential_22 : decode cX1_exponential 22 = .ok (.getstatic 80, 3) := by decide +kernel
theorem dX1_exponential_25 : decode cX1_exponential 25 = .ok (.arraylength, 1) := by decide +kernel
theorem dX1_exponential_26 : decode cX1_exponential 26 = .ok (.if_icmp .ge 48, 3) := by decide +kernel
theorem dX1_exponential_29 : decode cX1_exponential 29 = .ok (.aload_n 1, 1) := by decide +kernel
theorem dX1_exponential_30 : decode cX1_exponential 30 = .ok (.aload_n 0, 1) := by decide +kernel
theorem dX1_exponential_31 : decode cX1_exponential 31 = .ok (.getfield 15, 3) := by decide +kernel
theorem dX1_exponential_34 : decode cX1_exponential 34 = .ok (.iload_n 2, 1) := by decide +kernel
theorem dX1_exponential_35 : decode cX1_exponential 35 = .ok (.aload_n 0, 1) := by decide +kernel
theorem dX1_exponential_36 : decode cX1_exponential 36 = .ok (.getfield 18, 3) := by decide +kernel
theorem dX1_exponential_39 : decode cX1_exponential 39 = .ok (.invokestatic 68, 3) := by decide +kernel
theorem dX1_exponential_42 : decode cX1_exponential 42 = .ok (.aload_n 0, 1) := by decide +kernel
theorem dX1_exponential_43 : decode cX1_exponential 43 = .ok (.getfield 18, 3) := by decide +kernel
theorem dX1_exponential_46 : decode cX1_exponential 46 = .ok (.getstatic 80, 3) := by decide +kernel
theorem dX1_exponential_49 : decode cX1_exponential 49 = .ok (.iload 4, 2) := by decide +kernel
theorem dX1_exponential_51 : decode cX1_exponential 51 = .ok (.iaload, 1) := by decide +kernel
theorem dX1_exponential_52 : decode cX1_exponential 52 = .ok (.aload_n 0, 1) := by decide +kernel
theorem dX1_exponential_53 : decode cX1_exponential 53 = .ok (.getfield 15, 3) := by decide +kernel
theorem dX1_exponential_56 : decode cX1_exponential 56 = .ok (.invokestatic 83, 3) := by decide +kernel
theorem dX1_exponential_59 : decode cX1_exponential 59 = .ok (.aload_n 3, 1) := by decide +kernel
theorem dX1_exponential_60 : decode cX1_exponential 60 = .ok (.aload_n 0, 1) := by decide +kernel
theorem dX1_exponential_61 : decode cX1_exponential 61 = .ok (.getfield 15, 3) := by decide +kernel
theorem dX1_exponential_64 : decode cX1_exponential 64 = .ok (.iconst 1, 1) := by decide +kernel
theorem dX1_exponential_65 : decode cX1_exponential 65 = .ok (.invokestatic 72, 3) := by decide +kernel
theorem dX1_exponential_68 : decode cX1_exponential 68 = .ok (.iinc 4 1, 3) := by decide +kernel
theorem dX1_exponential_71 : decode cX1_exponential 71 = .ok (.goto (-57), 3) := by decide +kernel
theorem dX1_exponential_74 : decode cX1_exponential 74 = .ok (.return_, 1) := by decide +kernel
theorem dX1_substitute_0 : decode cX1_substitute 0 = .ok (.aload 4, 2) := by decide +kernel
theorem dX1_substitute_2 : decode cX1_substitute 2 = .ok (.iconst 0, 1) := by decide +kernel
theorem dX1_substitute_3 : decode cX1_substitute 3 = .ok (.invokestatic 62, 3) := by decide +kernel
theorem dX1_substitute_6 : decode cX1_substitute 6 = .ok (.iload_n 3, 1) := by decide +kernel
theorem dX1_substitute_7 : decode cX1_substitute 7 = .ok (.istore 5, 2) := by decide +kernel
theorem dX1_substitute_9 : decode cX1_substitute 9 = .ok (.iload 5, 2) := by decide +kernel
theorem dX1_substitute_11 : decode cX1_substitute 11 = .ok (.ifCond .lt 55, 3) := by decide +kernel
theorem dX1_substitute_14 : decode cX1_substitute 14 = .ok (.aload 4, 2) := by decide +kernel
theorem dX1_substitute_16 : decode cX1_substitute 16 = .ok (.aload_n 1, 1) := by decide +kernel
theorem dX1_substitute_17 : decode cX1_substitute 17 = .ok (.iload_n 3, 1) := by decide +kernel
theorem dX1_substitute_18 : decode cX1_substitute 18 = .ok (.aload_n 0, 1) := by decide +kernel
theorem dX1_substitute_19 : decode cX1_substitute 19 = .ok (.getfield 21, 3) := by decide +kernel
theorem dX1_substitute_22 : decode cX1_substitute 22 = .ok (.invokestatic 87, 3) := by decide +kernel
theorem dX1_substitute_25 : decode cX1_substitute 25 = .ok (.aload_n 0, 1) := by decide +kernel
theorem dX1_substitute_26 : decode cX1_substitute 26 = .ok (.getfield 21, 3) := by decide +kernel
theorem dX1_substitute_29 : decode cX1_substitute 29 = .ok (.iconst 0, 1) := by decide +kernel
theorem dX1_substitute_30 : decode cX1_substitute 30 = .ok (.aload_n 0, 1) := by decide +kernel
theorem dX1_substitute_31 : decode cX1_substitute 31 = .ok (.getfield 21, 3) := by decide +kernel
theorem dX1_substitute_34 : decode cX1_substitute 34 = .ok (.iconst 0, 1) := by decide +kernel
theorem dX1_substitute_35 : decode cX1_substitute 35 = .ok (.iaload, 1) := by decide +kernel
theorem dX1_substitute_36 : decode cX1_substitute 36 = .ok (.aload_n 2, 1) := by decide +kernel
theorem dX1_substitute_37 : decode cX1_substitute 37 = .ok (.iload 5, 2) := by decide +kernel
theorem dX1_substitute_39 : decode cX1_substitute 39 = .ok (.iaload, 1) := by decide +kernel
theorem dX1_substitute_40 : decode cX1_substitute 40 = .ok (.iadd, 1) := by decide +kernel
theorem dX1_substitute_41 : decode cX1_substitute 41 = .ok (.sipush 10007, 3) := by decide +kernel
theorem dX1_substitute_44 : decode cX1_substitute 44 = .ok (.irem, 1) := by decide +kernel
theorem dX1_substitute_45 : decode cX1_substitute 45 = .ok (.iastore, 1) := by decide +kernel
theorem dX1_substitute_46 : decode cX1_substitute 46 = .ok (.aload_n 0, 1) := by decide +kernel
theorem dX1_substitute_47 : decode cX1_substitute 47 = .ok (.getfield 21, 3) := by decide +kernel
theorem dX1_substitute_50 : decode cX1_substitute 50 = .ok (.iconst 0, 1) := by decide +kernel
theorem dX1_substitute_51 : decode cX1_substitute 51 = .ok (.aload 4, 2) := by decide +kernel
theorem dX1_substitute_53 : decode cX1_substitute 53 = .ok (.iconst 0, 1) := by decide +kernel
theorem dX1_substitute_54 : decode cX1_substitute 54 = .ok (.iload_n 3, 1) := by decide +kernel
theorem dX1_substitute_55 : decode cX1_substitute 55 = .ok (.iconst 1, 1) := by decide +kernel
theorem dX1_substitute_56 : decode cX1_substitute 56 = .ok (.iadd, 1) := by decide +kernel
theorem dX1_substitute_57 : decode cX1_substitute 57 = .ok (.invokestatic 90, 3) := by decide +kernel
theorem dX1_substitute_60 : decode cX1_substitute 60 = .ok (.iinc 5 (-1), 3) := by decide +kernel
theorem dX1_substitute_63 : decode cX1_substitute 63 = .ok (.goto (-54), 3) := by decide +kernel
theorem dX1_substitute_66 : decode cX1_substitute 66 = .ok (.return_, 1) := by decide +kernel
theorem dX1_inverse_0 : decode cX1_inverse 0 = .ok (.aload_n 3, 1) := by decide +kernel
theorem dX1_inverse_1 : decode cX1_inverse 1 = .ok (.invokestatic 76, 3) := by decide +kernel
theorem dX1_inverse_4 : decode cX1_inverse 4 = .ok (.iconst 2, 1) := by decide +kernel
theorem dX1_inverse_5 : decode cX1_inverse 5 = .ok (.istore 4, 2) := by decide +kernel
theorem dX1_inverse_7 : decode cX1_inverse 7 = .ok (.iload 4, 2) := by decide +kernel
theorem dX1_inverse_9 : decode cX1_inverse 9 = .ok (.iload_n 2, 1) := by decide +kernel
theorem dX1_inverse_10 : decode cX1_inverse 10 = .ok (.if_icmp .gt 40, 3) := by decide +kernel
theorem dX1_inverse_13 : decode cX1_inverse 13 = .ok (.aload_n 0, 1) := by decide +kernel
theorem dX1_inverse_14 : decode cX1_inverse 14 = .ok (.aload_n 1, 1) := by decide +kernel
theorem dX1_inverse_15 : decode cX1_inverse 15 = .ok (.aload_n 3, 1) := by decide +kernel
theorem dX1_inverse_16 : decode cX1_inverse 16 = .ok (.iload 4, 2) := by decide +kernel
theorem dX1_inverse_18 : decode cX1_inverse 18 = .ok (.aload_n 0, 1) := by decide +kernel
theorem dX1_inverse_19 : decode cX1_inverse 19 = .ok (.getfield 24, 3) := by decide +kernel
theorem dX1_inverse_22 : decode cX1_inverse 22 = .ok (.invokevirtual 96, 3) := by decide +kernel
theorem dX1_inverse_25 : decode cX1_inverse 25 = .ok (.aload_n 3, 1) := by decide +kernel
theorem dX1_inverse_26 : decode cX1_inverse 26 = .ok (.iload 4, 2) := by decide +kernel
theorem dX1_inverse_28 : decode cX1_inverse 28 = .ok (.sipush 10007, 3) := by decide +kernel
theorem dX1_inverse_31 : decode cX1_inverse 31 = .ok (.aload_n 0, 1) := by decide +kernel
theorem dX1_inverse_32 : decode cX1_inverse 32 = .ok (.getfield 24, 3) := by decide +kernel
theorem dX1_inverse_35 : decode cX1_inverse 35 = .ok (.iload 4, 2) := by decide +kernel
theorem dX1_inverse_37 : decode cX1_inverse 37 = .ok (.iaload, 1) := by decide +kernel
theorem dX1_inverse_38 : decode cX1_inverse 38 = .ok (.isub, 1) := by decide +kernel
theorem dX1_inverse_39 : decode cX1_inverse 39 = .ok (.sipush 10007, 3) := by decide +kernel
theorem dX1_inverse_42 : decode cX1_inverse 42 = .ok (.irem, 1) := by decide +kernel
theorem dX1_inverse_43 : decode cX1_inverse 43 = .ok (.iastore, 1) := by decide +kernel
theorem dX1_inverse_44 : decode cX1_inverse 44 = .ok (.iinc 4 1, 3) := by decide +kernel
theorem dX1_inverse_47 : decode cX1_inverse 47 = .ok (.goto (-40), 3) := by decide +kernel
theorem dX1_inverse_50 : decode cX1_inverse 50 = .ok (.return_, 1) := by decide +kernel
theorem dX1_logarithm_0 : decode cX1_logarithm 0 = .ok (.aload_n 3, 1) := by decide +kernel
theorem dX1_logarithm_1 : decode cX1_logarithm 1 = .ok (.iconst 0, 1) := by decide +kernel
theorem dX1_logarithm_2 : decode cX1_logarithm 2 = .ok (.invokestatic 62, 3) := by decide +kernel
theorem dX1_logarithm_5 : decode cX1_logarithm 5 = .ok (.iconst 2, 1) := by decide +kernel
theorem dX1_logarithm_6 : decode cX1_logarithm 6 = .ok (.istore 4, 2) := by decide +kernel
theorem dX1_logarithm_8 : decode cX1_logarithm 8 = .ok (.iload 4, 2) := by decide +kernel
theorem dX1_logarithm_10 : decode cX1_logarithm 10 = .ok (.iload_n 2, 1) := by decide +kernel
theorem dX1_logarithm_11 : decode cX1_logarithm 11 = .ok (.if_icmp .gt 44, 3) := by decide +kernel
theorem dX1_logarithm_14 : decode cX1_logarithm 14 = .ok (.aload_n 0, 1) := by decide +kernel
theorem dX1_logarithm_15 : decode cX1_logarithm 15 = .ok (.aload_n 3, 1) := by decide +kernel
theorem dX1_logarithm_16 : decode cX1_logarithm 16 = .ok (.iload 4, 2) := by decide +kernel
theorem dX1_logarithm_18 : decode cX1_logarithm 18 = .ok (.aload_n 0, 1) := by decide +kernel
theorem dX1_logarithm_19 : decode cX1_logarithm 19 = .ok (.getfield 24, 3) := by decide +kernel
theorem dX1_logarithm_22 : decode cX1_logarithm 22 = .ok (.invokevirtual 99, 3) := by decide +kernel
theorem dX1_logarithm_25 : decode cX1_logarithm 25 = .ok (.aload_n 3, 1) := by decide +kernel
theorem dX1_logarithm_26 : decode cX1_logarithm 26 = .ok (.iload 4, 2) := by decide +kernel
theorem dX1_logarithm_28 : decode cX1_logarithm 28 = .ok (.aload_n 1, 1) := by decide +kernel
theorem dX1_logarithm_29 : decode cX1_logarithm 29 = .ok (.iload 4, 2) := by decide +kernel
theorem dX1_logarithm_31 : decode cX1_logarithm 31 = .ok (.iaload, 1) := by decide +kernel
theorem dX1_logarithm_32 : decode cX1_logarithm 32 = .ok (.sipush 10007, 3) := by decide +kernel
theorem dX1_logarithm_35 : decode cX1_logarithm 35 = .ok (.iadd, 1) := by decide +kernel
theorem dX1_logarithm_36 : decode cX1_logarithm 36 = .ok (.aload_n 0, 1) := by decide +kernel
theorem dX1_logarithm_37 : decode cX1_logarithm 37 = .ok (.getfield 24, 3) := by decide +kernel
theorem dX1_logarithm_40 : decode cX1_logarithm 40 = .ok (.iload 4, 2) := by decide +kernel
theorem dX1_logarithm_42 : decode cX1_logarithm 42 = .ok (.iaload, 1) := by decide +kernel
theorem dX1_logarithm_43 : decode cX1_logarithm 43 = .ok (.isub, 1) := by decide +kernel
theorem dX1_logarithm_44 : decode cX1_logarithm 44 = .ok (.sipush 10007, 3) := by decide +kernel
theorem dX1_logarithm_47 : decode cX1_logarithm 47 = .ok (.irem, 1) := by decide +kernel
theorem dX1_logarithm_48 : decode cX1_logarithm 48 = .ok (.iastore, 1) := by decide +kernel
theorem dX1_logarithm_49 : decode cX1_logarithm 49 = .ok (.iinc 4 1, 3) := by decide +kernel
theorem dX1_logarithm_52 : decode cX1_logarithm 52 = .ok (.goto (-44), 3) := by decide +kernel
theorem dX1_logarithm_55 : decode cX1_logarithm 55 = .ok (.return_, 1) := by decide +kernel
theorem dX1_repeatFlow_0 : decode cX1_repeatFlow 0 = .ok (.aload_n 0, 1) := by decide +kernel
theorem dX1_repeatFlow_1 : decode cX1_repeatFlow 1 = .ok (.aload_n 1, 1) := by decide +kernel
theorem dX1_repeatFlow_2 : decode cX1_repeatFlow 2 = .ok (.iload_n 3, 1) := by decide +kernel
theorem dX1_repeatFlow_3 : decode cX1_repeatFlow 3 = .ok (.aload_n 0, 1) := by decide +kernel
theorem dX1_repeatFlow_4 : decode cX1_repeatFlow 4 = .ok (.getfield 33, 3) := by decide +kernel
theorem dX1_repeatFlow_7 : decode cX1_repeatFlow 7 = .ok (.invokevirtual 102, 3) := by decide +kernel
theorem dX1_repeatFlow_10 : decode cX1_repeatFlow 10 = .ok (.aload_n 0, 1) := by decide +kernel
theorem dX1_repeatFlow_11 : decode cX1_repeatFlow 11 = .ok (.getfield 33, 3) := by decide +kernel
theorem dX1_repeatFlow_14 : decode cX1_repeatFlow 14 = .ok (.iload_n 2, 1) := by decide +kernel
theorem dX1_repeatFlow_15 : decode cX1_repeatFlow 15 = .ok (.aload_n 0, 1) := by decide +kernel
theorem dX1_repeatFlow_16 : decode cX1_repeatFlow 16 = .ok (.getfield 33, 3) := by decide +kernel
theorem dX1_repeatFlow_19 : decode cX1_repeatFlow 19 = .ok (.invokestatic 83, 3) := by decide +kernel
theorem dX1_repeatFlow_22 : decode cX1_repeatFlow 22 = .ok (.aload_n 0, 1) := by decide +kernel
theorem dX1_repeatFlow_23 : decode cX1_repeatFlow 23 = .ok (.aload_n 0, 1) := by decide +kernel
theorem dX1_repeatFlow_24 : decode cX1_repeatFlow 24 = .ok (.getfield 33, 3) := by decide +kernel
theorem dX1_repeatFlow_27 : decode cX1_repeatFlow 27 = .ok (.iload_n 3, 1) := by decide +kernel
theorem dX1_repeatFlow_28 : decode cX1_repeatFlow 28 = .ok (.aload 4, 2) := by decide +kernel
theorem dX1_repeatFlow_30 : decode cX1_repeatFlow 30 = .ok (.invokevirtual 99, 3) := by decide +kernel
theorem dX1_repeatFlow_33 : decode cX1_repeatFlow 33 = .ok (.return_, 1) := by decide +kernel
theorem dX1_pushField_0 : decode cX1_pushField 0 = .ok (.aload_n 0, 1) := by decide +kernel
theorem dX1_pushField_1 : decode cX1_pushField 1 = .ok (.aload_n 1, 1) := by decide +kernel
theorem dX1_pushField_2 : decode cX1_pushField 2 = .ok (.iload_n 3, 1) := by decide +kernel
theorem dX1_pushField_3 : decode cX1_pushField 3 = .ok (.aload_n 0, 1) := by decide +kernel
theorem dX1_pushField_4 : decode cX1_pushField 4 = .ok (.getfield 30, 3) := by decide +kernel
theorem dX1_pushField_7 : decode cX1_pushField 7 = .ok (.invokevirtual 105, 3) := by decide +kernel
theorem dX1_pushField_10 : decode cX1_pushField 10 = .ok (.aload_n 2, 1) := by decide +kernel
theorem dX1_pushField_11 : decode cX1_pushField 11 = .ok (.aload_n 1, 1) := by decide +kernel
theorem dX1_pushField_12 : decode cX1_pushField 12 = .ok (.iload_n 3, 1) := by decide +kernel
theorem dX1_pushField_13 : decode cX1_pushField 13 = .ok (.aload_n 0, 1) := by decide +kernel
theorem dX1_pushField_14 : decode cX1_pushField 14 = .ok (.getfield 27, 3) := by decide +kernel
theorem dX1_pushField_17 : decode cX1_pushField 17 = .ok (.invokestatic 68, 3) := by decide +kernel
theorem dX1_pushField_20 : decode cX1_pushField 20 = .ok (.aload_n 0, 1) := by decide +kernel
theorem dX1_pushField_21 : decode cX1_pushField 21 = .ok (.aload_n 0, 1) := by decide +kernel
theorem dX1_pushField_22 : decode cX1_pushField 22 = .ok (.getfield 30, 3) := by decide +kernel
theorem dX1_pushField_25 : decode cX1_pushField 25 = .ok (.aload_n 0, 1) := by decide +kernel
theorem dX1_pushField_26 : decode cX1_pushField 26 = .ok (.getfield 27, 3) := by decide +kernel
theorem dX1_pushField_29 : decode cX1_pushField 29 = .ok (.iload_n 3, 1) := by decide +kernel
theorem dX1_pushField_30 : decode cX1_pushField 30 = .ok (.aload 4, 2) := by decide +kernel
theorem dX1_pushField_32 : decode cX1_pushField 32 = .ok (.invokevirtual 96, 3) := by decide +kernel
theorem dX1_pushField_35 : decode cX1_pushField 35 = .ok (.return_, 1) := by decide +kernel
theorem dX1_secondWay_0 : decode cX1_secondWay 0 = .ok (.aload_n 1, 1) := by decide +kernel
theorem dX1_secondWay_1 : decode cX1_secondWay 1 = .ok (.aload_n 2, 1) := by decide +kernel
theorem dX1_secondWay_2 : decode cX1_secondWay 2 = .ok (.aload 5, 2) := by decide +kernel
theorem dX1_secondWay_4 : decode cX1_secondWay 4 = .ok (.invokestatic 108, 3) := by decide +kernel
theorem dX1_secondWay_7 : decode cX1_secondWay 7 = .ok (.iload_n 3, 1) := by decide +kernel
theorem dX1_secondWay_8 : decode cX1_secondWay 8 = .ok (.iconst 3, 1) := by decide +kernel
theorem dX1_secondWay_9 : decode cX1_secondWay 9 = .ok (.if_icmp .ge 4, 3) := by decide +kernel
theorem dX1_secondWay_12 : decode cX1_secondWay 12 = .ok (.return_, 1) := by decide +kernel
theorem dX1_secondWay_13 : decode cX1_secondWay 13 = .ok (.aload_n 0, 1) := by decide +kernel
theorem dX1_secondWay_14 : decode cX1_secondWay 14 = .ok (.aload_n 1, 1) := by decide +kernel
theorem dX1_secondWay_15 : decode cX1_secondWay 15 = .ok (.aload_n 2, 1) := by decide +kernel
theorem dX1_secondWay_16 : decode cX1_secondWay 16 = .ok (.iload 4, 2) := by decide +kernel
theorem dX1_secondWay_18 : decode cX1_secondWay 18 = .ok (.aload_n 0, 1) := by decide +kernel
theorem dX1_secondWay_19 : decode cX1_secondWay 19 = .ok (.getfield 36, 3) := by decide +kernel
theorem dX1_secondWay_22 : decode cX1_secondWay 22 = .ok (.invokevirtual 112, 3) := by decide +kernel
theorem dX1_secondWay_25 : decode cX1_secondWay 25 = .ok (.aload 5, 2) := by decide +kernel
theorem dX1_secondWay_27 : decode cX1_secondWay 27 = .ok (.aload_n 0, 1) := by decide +kernel
theorem dX1_secondWay_28 : decode cX1_secondWay 28 = .ok (.getfield 36, 3) := by decide +kernel
theorem dX1_secondWay_31 : decode cX1_secondWay 31 = .ok (.sipush 5004, 3) := by decide +kernel
theorem dX1_secondWay_34 : decode cX1_secondWay 34 = .ok (.invokestatic 72, 3) := by decide +kernel
theorem dX1_secondWay_37 : decode cX1_secondWay 37 = .ok (.iload_n 3, 1) := by decide +kernel
theorem dX1_secondWay_38 : decode cX1_secondWay 38 = .ok (.iconst 4, 1) := by decide +kernel
theorem dX1_secondWay_39 : decode cX1_secondWay 39 = .ok (.if_icmp .ge 4, 3) := by decide +kernel
theorem dX1_secondWay_42 : decode cX1_secondWay 42 = .ok (.return_, 1) := by decide +kernel
theorem dX1_secondWay_43 : decode cX1_secondWay 43 = .ok (.aload_n 0, 1) := by decide +kernel
theorem dX1_secondWay_44 : decode cX1_secondWay 44 = .ok (.aload_n 1, 1) := by decide +kernel
theorem dX1_secondWay_45 : decode cX1_secondWay 45 = .ok (.aload_n 0, 1) := by decide +kernel
theorem dX1_secondWay_46 : decode cX1_secondWay 46 = .ok (.getfield 36, 3) := by decide +kernel
theorem dX1_secondWay_49 : decode cX1_secondWay 49 = .ok (.iload 4, 2) := by decide +kernel
theorem dX1_secondWay_51 : decode cX1_secondWay 51 = .ok (.aload_n 0, 1) := by decide +kernel
theorem dX1_secondWay_52 : decode cX1_secondWay 52 = .ok (.getfield 39, 3) := by decide +kernel
theorem dX1_secondWay_55 : decode cX1_secondWay 55 = .ok (.invokevirtual 112, 3) := by decide +kernel
theorem dX1_secondWay_58 : decode cX1_secondWay 58 = .ok (.aload_n 0, 1) := by decide +kernel
theorem dX1_secondWay_59 : decode cX1_secondWay 59 = .ok (.aload_n 2, 1) := by decide +kernel
theorem dX1_secondWay_60 : decode cX1_secondWay 60 = .ok (.aload_n 0, 1) := by decide +kernel
theorem dX1_secondWay_61 : decode cX1_secondWay 61 = .ok (.getfield 36, 3) := by decide +kernel
theorem dX1_secondWay_64 : decode cX1_secondWay 64 = .ok (.iload 4, 2) := by decide +kernel
theorem dX1_secondWay_66 : decode cX1_secondWay 66 = .ok (.aload_n 0, 1) := by decide +kernel
theorem dX1_secondWay_67 : decode cX1_secondWay 67 = .ok (.getfield 42, 3) := by decide +kernel
theorem dX1_secondWay_70 : decode cX1_secondWay 70 = .ok (.invokevirtual 112, 3) := by decide +kernel
theorem dX1_secondWay_73 : decode cX1_secondWay 73 = .ok (.aload 5, 2) := by decide +kernel
theorem dX1_secondWay_75 : decode cX1_secondWay 75 = .ok (.aload_n 0, 1) := by decide +kernel
theorem dX1_secondWay_76 : decode cX1_secondWay 76 = .ok (.getfield 39, 3) := by decide +kernel
theorem dX1_secondWay_79 : decode cX1_secondWay 79 = .ok (.sipush 834, 3) := by decide +kernel
theorem dX1_secondWay_82 : decode cX1_secondWay 82 = .ok (.invokestatic 72, 3) := by decide +kernel
theorem dX1_secondWay_85 : decode cX1_secondWay 85 = .ok (.aload 5, 2) := by decide +kernel
theorem dX1_secondWay_87 : decode cX1_secondWay 87 = .ok (.aload_n 0, 1) := by decide +kernel
theorem dX1_secondWay_88 : decode cX1_secondWay 88 = .ok (.getfield 42, 3) := by decide +kernel
theorem dX1_secondWay_91 : decode cX1_secondWay 91 = .ok (.sipush 9173, 3) := by decide +kernel
theorem dX1_secondWay_94 : decode cX1_secondWay 94 = .ok (.invokestatic 72, 3) := by decide +kernel
theorem dX1_secondWay_97 : decode cX1_secondWay 97 = .ok (.iload_n 3, 1) := by decide +kernel
theorem dX1_secondWay_98 : decode cX1_secondWay 98 = .ok (.iconst 5, 1) := by decide +kernel
theorem dX1_secondWay_99 : decode cX1_secondWay 99 = .ok (.if_icmp .ge 4, 3) := by decide +kernel
theorem dX1_secondWay_102 : decode cX1_secondWay 102 = .ok (.return_, 1) := by decide +kernel
theorem dX1_secondWay_103 : decode cX1_secondWay 103 = .ok (.aload_n 0, 1) := by decide +kernel
theorem dX1_secondWay_104 : decode cX1_secondWay 104 = .ok (.aload_n 2, 1) := by decide +kernel
theorem dX1_secondWay_105 : decode cX1_secondWay 105 = .ok (.aload_n 0, 1) := by decide +kernel
theorem dX1_secondWay_106 : decode cX1_secondWay 106 = .ok (.getfield 39, 3) := by decide +kernel
theorem dX1_secondWay_109 : decode cX1_secondWay 109 = .ok (.iload 4, 2) := by decide +kernel
theorem dX1_secondWay_111 : decode cX1_secondWay 111 = .ok (.aload_n 0, 1) := by decide +kernel
theorem dX1_secondWay_112 : decode cX1_secondWay 112 = .ok (.getfield 42, 3) := by decide +kernel
theorem dX1_secondWay_115 : decode cX1_secondWay 115 = .ok (.invokevirtual 112, 3) := by decide +kernel
theorem dX1_secondWay_118 : decode cX1_secondWay 118 = .ok (.aload 5, 2) := by decide +kernel
theorem dX1_secondWay_120 : decode cX1_secondWay 120 = .ok (.aload_n 0, 1) := by decide +kernel
theorem dX1_secondWay_121 : decode cX1_secondWay 121 = .ok (.getfield 42, 3) := by decide +kernel
theorem dX1_secondWay_124 : decode cX1_secondWay 124 = .ok (.sipush 9590, 3) := by decide +kernel
theorem dX1_secondWay_127 : decode cX1_secondWay 127 = .ok (.invokestatic 72, 3) := by decide +kernel
theorem dX1_secondWay_130 : decode cX1_secondWay 130 = .ok (.return_, 1) := by decide +kernel
theorem dX1_composedField_0 : decode cX1_composedField 0 = .ok (.aload_n 0, 1) := by decide +kernel
theorem dX1_composedField_1 : decode cX1_composedField 1 = .ok (.aload_n 1, 1) := by decide +kernel
theorem dX1_composedField_2 : decode cX1_composedField 2 = .ok (.iload_n 3, 1) := by decide +kernel
theorem dX1_composedField_3 : decode cX1_composedField 3 = .ok (.aload_n 0, 1) := by decide +kernel
theorem dX1_composedField_4 : decode cX1_composedField 4 = .ok (.getfield 45, 3) := by decide +kernel
theorem dX1_composedField_7 : decode cX1_composedField 7 = .ok (.invokevirtual 99, 3) := by decide +kernel
theorem dX1_composedField_10 : decode cX1_composedField 10 = .ok (.aload_n 0, 1) := by decide +kernel
theorem dX1_composedField_11 : decode cX1_composedField 11 = .ok (.aload_n 2, 1) := by decide +kernel
theorem dX1_composedField_12 : decode cX1_composedField 12 = .ok (.iload_n 3, 1) := by decide +kernel
theorem dX1_composedField_13 : decode cX1_composedField 13 = .ok (.aload_n 0, 1) := by decide +kernel
theorem dX1_composedField_14 : decode cX1_composedField 14 = .ok (.getfield 48, 3) := by decide +kernel
theorem dX1_composedField_17 : decode cX1_composedField 17 = .ok (.invokevirtual 99, 3) := by decide +kernel
theorem dX1_composedField_20 : decode cX1_composedField 20 = .ok (.aload_n 0, 1) := by decide +kernel
theorem dX1_composedField_21 : decode cX1_composedField 21 = .ok (.aload_n 0, 1) := by decide +kernel
theorem dX1_composedField_22 : decode cX1_composedField 22 = .ok (.getfield 45, 3) := by decide +kernel
theorem dX1_composedField_25 : decode cX1_composedField 25 = .ok (.aload_n 0, 1) := by decide +kernel
theorem dX1_composedField_26 : decode cX1_composedField 26 = .ok (.getfield 48, 3) := by decide +kernel
theorem dX1_composedField_29 : decode cX1_composedField 29 = .ok (.iload_n 3, 1) := by decide +kernel
theorem dX1_composedField_30 : decode cX1_composedField 30 = .ok (.aload_n 0, 1) := by decide +kernel
theorem dX1_composedField_31 : decode cX1_composedField 31 = .ok (.getfield 51, 3) := by decide +kernel
theorem dX1_composedField_34 : decode cX1_composedField 34 = .ok (.invokevirtual 96, 3) := by decide +kernel
theorem dX1_composedField_37 : decode cX1_composedField 37 = .ok (.aload_n 0, 1) := by decide +kernel
theorem dX1_composedField_38 : decode cX1_composedField 38 = .ok (.aload_n 0, 1) := by decide +kernel
theorem dX1_composedField_39 : decode cX1_composedField 39 = .ok (.getfield 51, 3) := by decide +kernel
theorem dX1_composedField_42 : decode cX1_composedField 42 = .ok (.iload_n 3, 1) := by decide +kernel
theorem dX1_composedField_43 : decode cX1_composedField 43 = .ok (.aload 4, 2) := by decide +kernel
theorem dX1_composedField_45 : decode cX1_composedField 45 = .ok (.invokevirtual 102, 3) := by decide +kernel
theorem dX1_composedField_48 : decode cX1_composedField 48 = .ok (.return_, 1) := by decide +kernel
theorem dX2_init_0 : decode cX2_init 0 = .ok (.aload_n 0, 1) := by decide +kernel
theorem dX2_init_1 : decode cX2_init 1 = .ok (.invokespecial 3, 3) := by decide +kernel
theorem dX2_init_4 : decode cX2_init 4 = .ok (.aload_n 0, 1) := by decide +kernel
theorem dX2_init_5 : decode cX2_init 5 = .ok (.iconst 5, 1) := by decide +kernel
theorem dX2_init_6 : decode cX2_init 6 = .ok (.putfield 9, 3) := by decide +kernel
theorem dX2_init_9 : decode cX2_init 9 = .ok (.aload_n 0, 1) := by decide +kernel
theorem dX2_init_10 : decode cX2_init 10 = .ok (.bipush 6, 2) := by decide +kernel
theorem dX2_init_12 : decode cX2_init 12 = .ok (.bipush 7, 2) := by decide +kernel
theorem dX2_init_14 : decode cX2_init 14 = .ok (.multianewarray 15 2, 4) := by decide +kernel
theorem dX2_init_18 : decode cX2_init 18 = .ok (.putfield 17, 3) := by decide +kernel
theorem dX2_init_21 : decode cX2_init 21 = .ok (.aload_n 0, 1) := by decide +kernel
theorem dX2_init_22 : decode cX2_init 22 = .ok (.bipush 6, 2) := by decide +kernel
theorem dX2_init_24 : decode cX2_init 24 = .ok (.bipush 7, 2) := by decide +kernel
theorem dX2_init_26 : decode cX2_init 26 = .ok (.multianewarray 15 2, 4) := by decide +kernel
theorem dX2_init_30 : decode cX2_init 30 = .ok (.putfield 20, 3) := by decide +kernel
theorem dX2_init_33 : decode cX2_init 33 = .ok (.iconst 0, 1) := by decide +kernel
theorem dX2_init_34 : decode cX2_init 34 = .ok (.istore_n 1, 1) := by decide +kernel
theorem dX2_init_35 : decode cX2_init 35 = .ok (.iload_n 1, 1) := by decide +kernel
theorem dX2_init_36 : decode cX2_init 36 = .ok (.bipush 6, 2) := by decide +kernel
theorem dX2_init_38 : decode cX2_init 38 = .ok (.if_icmp .ge 18, 3) := by decide +kernel
theorem dX2_init_41 : decode cX2_init 41 = .ok (.aload_n 0, 1) := by decide +kernel
theorem dX2_init_42 : decode cX2_init 42 = .ok (.getfield 20, 3) := by decide +kernel
theorem dX2_init_45 : decode cX2_init 45 = .ok (.iload_n 1, 1) := by decide +kernel
theorem dX2_init_46 : decode cX2_init 46 = .ok (.aaload, 1) := by decide +kernel
theorem dX2_init_47 : decode cX2_init 47 = .ok (.iconst 1, 1) := by decide +kernel
theorem dX2_init_48 : decode cX2_init 48 = .ok (.iconst 1, 1) := by decide +kernel
theorem dX2_init_49 : decode cX2_init 49 = .ok (.iastore, 1) := by decide +kernel
theorem dX2_init_50 : decode cX2_init 50 = .ok (.iinc 1 1, 3) := by decide +kernel
theorem dX2_init_53 : decode cX2_init 53 = .ok (.goto (-18), 3) := by decide +kernel
theorem dX2_init_56 : decode cX2_init 56 = .ok (.return_, 1) := by decide +kernel
theorem dX2_copyFrom_0 : decode cX2_copyFrom 0 = .ok (.aload_n 0, 1) := by decide +kernel
theorem dX2_copyFrom_1 : decode cX2_copyFrom 1 = .ok (.aload_n 1, 1) := by decide +kernel
theorem dX2_copyFrom_2 : decode cX2_copyFrom 2 = .ok (.getfield 9, 3) := by decide +kernel
theorem dX2_copyFrom_5 : decode cX2_copyFrom 5 = .ok (.putfield 9, 3) := by decide +kernel
theorem dX2_copyFrom_8 : decode cX2_copyFrom 8 = .ok (.iconst 0, 1) := by decide +kernel
theorem dX2_copyFrom_9 : decode cX2_copyFrom 9 = .ok (.istore_n 2, 1) := by decide +kernel
theorem dX2_copyFrom_10 : decode cX2_copyFrom 10 = .ok (.iload_n 2, 1) := by decide +kernel
theorem dX2_copyFrom_11 : decode cX2_copyFrom 11 = .ok (.bipush 6, 2) := by decide +kernel
theorem dX2_copyFrom_13 : decode cX2_copyFrom 13 = .ok (.if_icmp .ge 47, 3) := by decide +kernel
theorem dX2_copyFrom_16 : decode cX2_copyFrom 16 = .ok (.aload_n 1, 1) := by decide +kernel
theorem dX2_copyFrom_17 : decode cX2_copyFrom 17 = .ok (.getfield 17, 3) := by decide +kernel
theorem dX2_copyFrom_20 : decode cX2_copyFrom 20 = .ok (.iload_n 2, 1) := by decide +kernel
theorem dX2_copyFrom_21 : decode cX2_copyFrom 21 = .ok (.aaload, 1) := by decide +kernel
theorem dX2_copyFrom_22 : decode cX2_copyFrom 22 = .ok (.iconst 0, 1) := by decide +kernel
theorem dX2_copyFrom_23 : decode cX2_copyFrom 23 = .ok (.aload_n 0, 1) := by decide +kernel
theorem dX2_copyFrom_24 : decode cX2_copyFrom 24 = .ok (.getfield 17, 3) := by decide +kernel
theorem dX2_copyFrom_27 : decode cX2_copyFrom 27 = .ok (.iload_n 2, 1) := by decide +kernel
theorem dX2_copyFrom_28 : decode cX2_copyFrom 28 = .ok (.aaload, 1) := by decide +kernel
theorem dX2_copyFrom_29 : decode cX2_copyFrom 29 = .ok (.iconst 0, 1) := by decide +kernel
theorem dX2_copyFrom_30 : decode cX2_copyFrom 30 = .ok (.bipush 7, 2) := by decide +kernel
theorem dX2_copyFrom_32 : decode cX2_copyFrom 32 = .ok (.invokestatic 23, 3) := by decide +kernel
theorem dX2_copyFrom_35 : decode cX2_copyFrom 35 = .ok (.aload_n 1, 1) := by decide +kernel
theorem dX2_copyFrom_36 : decode cX2_copyFrom 36 = .ok (.getfield 20, 3) := by decide +kernel
theorem dX2_copyFrom_39 : decode cX2_copyFrom 39 = .ok (.iload_n 2, 1) := by decide +kernel
theorem dX2_copyFrom_40 : decode cX2_copyFrom 40 = .ok (.aaload, 1) := by decide +kernel
theorem dX2_copyFrom_41 : decode cX2_copyFrom 41 = .ok (.iconst 0, 1) := by decide +kernel
theorem dX2_copyFrom_42 : decode cX2_copyFrom 42 = .ok (.aload_n 0, 1) := by decide +kernel
theorem dX2_copyFrom_43 : decode cX2_copyFrom 43 = .ok (.getfield 20, 3) := by decide +kernel
theorem dX2_copyFrom_46 : decode cX2_copyFrom 46 = .ok (.iload_n 2, 1) := by decide +kernel
theorem dX2_copyFrom_47 : decode cX2_copyFrom 47 = .ok (.aaload, 1) := by decide +kernel
theorem dX2_copyFrom_48 : decode cX2_copyFrom 48 = .ok (.iconst 0, 1) := by decide +kernel
theorem dX2_copyFrom_49 : decode cX2_copyFrom 49 = .ok (.bipush 7, 2) := by decide +kernel
theorem dX2_copyFrom_51 : decode cX2_copyFrom 51 = .ok (.invokestatic 23, 3) := by decide +kernel
theorem dX2_copyFrom_54 : decode cX2_copyFrom 54 = .ok (.iinc 2 1, 3) := by decide +kernel
theorem dX2_copyFrom_57 : decode cX2_copyFrom 57 = .ok (.goto (-47), 3) := by decide +kernel
theorem dX2_copyFrom_60 : decode cX2_copyFrom 60 = .ok (.return_, 1) := by decide +kernel
theorem dX2_cutAt_0 : decode cX2_cutAt 0 = .ok (.aload_n 0, 1) := by decide +kernel
theorem dX2_cutAt_1 : decode cX2_cutAt 1 = .ok (.iload_n 1, 1) := by decide +kernel
theorem dX2_cutAt_2 : decode cX2_cutAt 2 = .ok (.putfield 9, 3) := by decide +kernel
theorem dX2_cutAt_5 : decode cX2_cutAt 5 = .ok (.iconst 0, 1) := by decide +kernel
theorem dX2_cutAt_6 : decode cX2_cutAt 6 = .ok (.istore_n 2, 1) := by decide +kernel
theorem dX2_cutAt_7 : decode cX2_cutAt 7 = .ok (.iload_n 2, 1) := by decide +kernel
theorem dX2_cutAt_8 : decode cX2_cutAt 8 = .ok (.bipush 6, 2) := by decide +kernel
theorem dX2_cutAt_10 : decode cX2_cutAt 10 = .ok (.if_icmp .ge 43, 3) := by decide +kernel
theorem dX2_cutAt_13 : decode cX2_cutAt 13 = .ok (.iload_n 1, 1) := by decide +kernel
theorem dX2_cutAt_14 : decode cX2_cutAt 14 = .ok (.iconst 1, 1) := by decide +kernel
theorem dX2_cutAt_15 : decode cX2_cutAt 15 = .ok (.iadd, 1) := by decide +kernel
theorem dX2_cutAt_16 : decode cX2_cutAt 16 = .ok (.istore_n 3, 1) := by decide +kernel
theorem dX2_cutAt_17 : decode cX2_cutAt 17 = .ok (.iload_n 3, 1) := by decide +kernel
theorem dX2_cutAt_18 : decode cX2_cutAt 18 = .ok (.bipush 6, 2) := by decide +kernel
theorem dX2_cutAt_20 : decode cX2_cutAt 20 = .ok (.if_icmp .gt 27, 3) := by decide +kernel
theorem dX2_cutAt_23 : decode cX2_cutAt 23 = .ok (.aload_n 0, 1) := by decide +kernel
theorem dX2_cutAt_24 : decode cX2_cutAt 24 = .ok (.getfield 17, 3) := by decide +kernel
theorem dX2_cutAt_27 : decode cX2_cutAt 27 = .ok (.iload_n 2, 1) := by decide +kernel
theorem dX2_cutAt_28 : decode cX2_cutAt 28 = .ok (.aaload, 1) := by decide +kernel
theorem dX2_cutAt_29 : decode cX2_cutAt 29 = .ok (.iload_n 3, 1) := by decide +kernel
theorem dX2_cutAt_30 : decode cX2_cutAt 30 = .ok (.iconst 0, 1) := by decide +kernel
theorem dX2_cutAt_31 : decode cX2_cutAt 31 = .ok (.iastore, 1) := by decide +kernel
theorem dX2_cutAt_32 : decode cX2_cutAt 32 = .ok (.aload_n 0, 1) := by decide +kernel
theorem dX2_cutAt_33 : decode cX2_cutAt 33 = .ok (.getfield 20, 3) := by decide +kernel
theorem dX2_cutAt_36 : decode cX2_cutAt 36 = .ok (.iload_n 2, 1) := by decide +kernel
theorem dX2_cutAt_37 : decode cX2_cutAt 37 = .ok (.aaload, 1) := by decide +kernel
theorem dX2_cutAt_38 : decode cX2_cutAt 38 = .ok (.iload_n 3, 1) := by decide +kernel
theorem dX2_cutAt_39 : decode cX2_cutAt 39 = .ok (.iconst 0, 1) := by decide +kernel
theorem dX2_cutAt_40 : decode cX2_cutAt 40 = .ok (.iastore, 1) := by decide +kernel
theorem dX2_cutAt_41 : decode cX2_cutAt 41 = .ok (.iinc 3 1, 3) := by decide +kernel
theorem dX2_cutAt_44 : decode cX2_cutAt 44 = .ok (.goto (-27), 3) := by decide +kernel
theorem dX2_cutAt_47 : decode cX2_cutAt 47 = .ok (.iinc 2 1, 3) := by decide +kernel
theorem dX2_cutAt_50 : decode cX2_cutAt 50 = .ok (.goto (-43), 3) := by decide +kernel
theorem dX2_cutAt_53 : decode cX2_cutAt 53 = .ok (.return_, 1) := by decide +kernel
theorem dX2_fieldsThatAreNotZero_0 : decode cX2_fieldsThatAreNotZero 0 = .ok (.aload_n 0, 1) := by decide +kernel
theorem dX2_fieldsThatAreNotZero_1 : decode cX2_fieldsThatAreNotZero 1 = .ok (.getfield 17, 3) := by decide +kernel
theorem dX2_fieldsThatAreNotZero_4 : decode cX2_fieldsThatAreNotZero 4 = .ok (.invokestatic 29, 3) := by decide +kernel
theorem dX2_fieldsThatAreNotZero_7 : decode cX2_fieldsThatAreNotZero 7 = .ok (.ireturn, 1) := by decide +kernel
theorem dX2_flowsThatAreNotX_0 : decode cX2_flowsThatAreNotX 0 = .ok (.aload_n 0, 1) := by decide +kernel
theorem dX2_flowsThatAreNotX_1 : decode cX2_flowsThatAreNotX 1 = .ok (.getfield 20, 3) := by decide +kernel
theorem dX2_flowsThatAreNotX_4 : decode cX2_flowsThatAreNotX 4 = .ok (.invokestatic 29, 3) := by decide +kernel
theorem dX2_flowsThatAreNotX_7 : decode cX2_flowsThatAreNotX 7 = .ok (.ireturn, 1) := by decide +kernel
theorem dX2_rowsWithPowers_0 : decode cX2_rowsWithPowers 0 = .ok (.iconst 0, 1) := by decide +kernel
theorem dX2_rowsWithPowers_1 : decode cX2_rowsWithPowers 1 = .ok (.istore_n 1, 1) := by decide +kernel
theorem dX2_rowsWithPowers_2 : decode cX2_rowsWithPowers 2 = .ok (.iconst 0, 1) := by decide +kernel
theorem dX2_rowsWithPowers_3 : decode cX2_rowsWithPowers 3 = .ok (.istore_n 2, 1) := by decide +kernel
theorem dX2_rowsWithPowers_4 : decode cX2_rowsWithPowers 4 = .ok (.iload_n 2, 1) := by decide +kernel
theorem dX2_rowsWithPowers_5 : decode cX2_rowsWithPowers 5 = .ok (.bipush 6, 2) := by decide +kernel
theorem dX2_rowsWithPowers_7 : decode cX2_rowsWithPowers 7 = .ok (.if_icmp .ge 22, 3) := by decide +kernel
theorem dX2_rowsWithPowers_10 : decode cX2_rowsWithPowers 10 = .ok (.aload_n 0, 1) := by decide +kernel
theorem dX2_rowsWithPowers_11 : decode cX2_rowsWithPowers 11 = .ok (.iload_n 2, 1) := by decide +kernel
theorem dX2_rowsWithPowers_12 : decode cX2_rowsWithPowers 12 = .ok (.aaload, 1) := by decide +kernel
theorem dX2_rowsWithPowers_13 : decode cX2_rowsWithPowers 13 = .ok (.invokestatic 33, 3) := by decide +kernel
theorem dX2_rowsWithPowers_16 : decode cX2_rowsWithPowers 16 = .ok (.iconst (-1), 1) := by decide +kernel
theorem dX2_rowsWithPowers_17 : decode cX2_rowsWithPowers 17 = .ok (.if_icmp .eq 6, 3) := by decide +kernel
theorem dX2_rowsWithPowers_20 : decode cX2_rowsWithPowers 20 = .ok (.iinc 1 1, 3) := by decide +kernel
theorem dX2_rowsWithPowers_23 : decode cX2_rowsWithPowers 23 = .ok (.iinc 2 1, 3) := by decide +kernel
theorem dX2_rowsWithPowers_26 : decode cX2_rowsWithPowers 26 = .ok (.goto (-22), 3) := by decide +kernel
theorem dX2_rowsWithPowers_29 : decode cX2_rowsWithPowers 29 = .ok (.iload_n 1, 1) := by decide +kernel
theorem dX2_rowsWithPowers_30 : decode cX2_rowsWithPowers 30 = .ok (.ireturn, 1) := by decide +kernel
theorem dX2_fieldCoefficientsThatAreNotZero_0 : decode cX2_fieldCoefficientsThatAreNotZero 0 = .ok (.iconst 0, 1) := by decide +kernel
theorem dX2_fieldCoefficientsThatAreNotZero_1 : decode cX2_fieldCoefficientsThatAreNotZero 1 = .ok (.istore_n 1, 1) := by decide +kernel
theorem dX2_fieldCoefficientsThatAreNotZero_2 : decode cX2_fieldCoefficientsThatAreNotZero 2 = .ok (.iconst 0, 1) := by decide +kernel
theorem dX2_fieldCoefficientsThatAreNotZero_3 : decode cX2_fieldCoefficientsThatAreNotZero 3 = .ok (.istore_n 2, 1) := by decide +kernel
theorem dX2_fieldCoefficientsThatAreNotZero_4 : decode cX2_fieldCoefficientsThatAreNotZero 4 = .ok (.iload_n 2, 1) := by decide +kernel
theorem dX2_fieldCoefficientsThatAreNotZero_5 : decode cX2_fieldCoefficientsThatAreNotZero 5 = .ok (.bipush 6, 2) := by decide +kernel
theorem dX2_fieldCoefficientsThatAreNotZero_7 : decode cX2_fieldCoefficientsThatAreNotZero 7 = .ok (.if_icmp .ge 37, 3) := by decide +kernel
theorem dX2_fieldCoefficientsThatAreNotZero_10 : decode cX2_fieldCoefficientsThatAreNotZero 10 = .ok (.iconst 2, 1) := by decide +kernel
theorem dX2_fieldCoefficientsThatAreNotZero_11 : decode cX2_fieldCoefficientsThatAreNotZero 11 = .ok (.istore_n 3, 1) := by decide +kernel
theorem dX2_fieldCoefficientsThatAreNotZero_12 : decode cX2_fieldCoefficientsThatAreNotZero 12 = .ok (.iload_n 3, 1) := by decide +kernel
theorem dX2_fieldCoefficientsThatAreNotZero_13 : decode cX2_fieldCoefficientsThatAreNotZero 13 = .ok (.bipush 6, 2) := by decide +kernel
theorem dX2_fieldCoefficientsThatAreNotZero_15 : decode cX2_fieldCoefficientsThatAreNotZero 15 = .ok (.if_icmp .gt 23, 3) := by decide +kernel
theorem dX2_fieldCoefficientsThatAreNotZero_18 : decode cX2_fieldCoefficientsThatAreNotZero 18 = .ok (.aload_n 0, 1) := by decide +kernel
theorem dX2_fieldCoefficientsThatAreNotZero_19 : decode cX2_fieldCoefficientsThatAreNotZero 19 = .ok (.getfield 17, 3) := by decide +kernel
theorem dX2_fieldCoefficientsThatAreNotZero_22 : decode cX2_fieldCoefficientsThatAreNotZero 22 = .ok (.iload_n 2, 1) := by decide +kernel
theorem dX2_fieldCoefficientsThatAreNotZero_23 : decode cX2_fieldCoefficientsThatAreNotZero 23 = .ok (.aaload, 1) := by decide +kernel
theorem dX2_fieldCoefficientsThatAreNotZero_24 : decode cX2_fieldCoefficientsThatAreNotZero 24 = .ok (.iload_n 3, 1) := by decide +kernel
theorem dX2_fieldCoefficientsThatAreNotZero_25 : decode cX2_fieldCoefficientsThatAreNotZero 25 = .ok (.iaload, 1) := by decide +kernel
theorem dX2_fieldCoefficientsThatAreNotZero_26 : decode cX2_fieldCoefficientsThatAreNotZero 26 = .ok (.ifCond .eq 6, 3) := by decide +kernel
theorem dX2_fieldCoefficientsThatAreNotZero_29 : decode cX2_fieldCoefficientsThatAreNotZero 29 = .ok (.iinc 1 1, 3) := by decide +kernel
theorem dX2_fieldCoefficientsThatAreNotZero_32 : decode cX2_fieldCoefficientsThatAreNotZero 32 = .ok (.iinc 3 1, 3) := by decide +kernel
theorem dX2_fieldCoefficientsThatAreNotZero_35 : decode cX2_fieldCoefficientsThatAreNotZero 35 = .ok (.goto (-23), 3) := by decide +kernel
theorem dX2_fieldCoefficientsThatAreNotZero_38 : decode cX2_fieldCoefficientsThatAreNotZero 38 = .ok (.iinc 2 1, 3) := by decide +kernel
theorem dX2_fieldCoefficientsThatAreNotZero_41 : decode cX2_fieldCoefficientsThatAreNotZero 41 = .ok (.goto (-37), 3) := by decide +kernel
theorem dX2_fieldCoefficientsThatAreNotZero_44 : decode cX2_fieldCoefficientsThatAreNotZero 44 = .ok (.iload_n 1, 1) := by decide +kernel
theorem dX2_fieldCoefficientsThatAreNotZero_45 : decode cX2_fieldCoefficientsThatAreNotZero 45 = .ok (.ireturn, 1) := by decide +kernel
theorem dX3_init_0 : decode cX3_init 0 = .ok (.aload_n 0, 1) := by decide +kernel
theorem dX3_init_1 : decode cX3_init 1 = .ok (.invokespecial 3, 3) := by decide +kernel
theorem dX3_init_4 : decode cX3_init 4 = .ok (.aload_n 0, 1) := by decide +kernel
theorem dX3_init_5 : decode cX3_init 5 = .ok (.new 9, 3) := by decide +kernel
theorem dX3_init_8 : decode cX3_init 8 = .ok (.dup, 1) := by decide +kernel
theorem dX3_init_9 : decode cX3_init 9 = .ok (.invokespecial 11, 3) := by decide +kernel
theorem dX3_init_12 : decode cX3_init 12 = .ok (.putfield 12, 3) := by decide +kernel
theorem dX3_init_15 : decode cX3_init 15 = .ok (.aload_n 0, 1) := by decide +kernel
theorem dX3_init_16 : decode cX3_init 16 = .ok (.sipush 500, 3) := by decide +kernel
theorem dX3_init_19 : decode cX3_init 19 = .ok (.putfield 18, 3) := by decide +kernel
theorem dX3_init_22 : decode cX3_init 22 = .ok (.return_, 1) := by decide +kernel
theorem dX3_copyFrom_0 : decode cX3_copyFrom 0 = .ok (.aload_n 0, 1) := by decide +kernel
theorem dX3_copyFrom_1 : decode cX3_copyFrom 1 = .ok (.getfield 12, 3) := by decide +kernel
theorem dX3_copyFrom_4 : decode cX3_copyFrom 4 = .ok (.aload_n 1, 1) := by decide +kernel
theorem dX3_copyFrom_5 : decode cX3_copyFrom 5 = .ok (.getfield 12, 3) := by decide +kernel
theorem dX3_copyFrom_8 : decode cX3_copyFrom 8 = .ok (.invokevirtual 22, 3) := by decide +kernel
theorem dX3_copyFrom_11 : decode cX3_copyFrom 11 = .ok (.aload_n 0, 1) := by decide +kernel
theorem dX3_copyFrom_12 : decode cX3_copyFrom 12 = .ok (.aload_n 1, 1) := by decide +kernel
theorem dX3_copyFrom_13 : decode cX3_copyFrom 13 = .ok (.getfield 18, 3) := by decide +kernel
theorem dX3_copyFrom_16 : decode cX3_copyFrom 16 = .ok (.putfield 18, 3) := by decide +kernel
theorem dX3_copyFrom_19 : decode cX3_copyFrom 19 = .ok (.aload_n 0, 1) := by decide +kernel
theorem dX3_copyFrom_20 : decode cX3_copyFrom 20 = .ok (.aload_n 1, 1) := by decide +kernel
theorem dX3_copyFrom_21 : decode cX3_copyFrom 21 = .ok (.getfield 26, 3) := by decide +kernel
theorem dX3_copyFrom_24 : decode cX3_copyFrom 24 = .ok (.putfield 26, 3) := by decide +kernel
theorem dX3_copyFrom_27 : decode cX3_copyFrom 27 = .ok (.aload_n 0, 1) := by decide +kernel
theorem dX3_copyFrom_28 : decode cX3_copyFrom 28 = .ok (.aload_n 1, 1) := by decide +kernel
theorem dX3_copyFrom_29 : decode cX3_copyFrom 29 = .ok (.getfield 29, 3) := by decide +kernel
theorem dX3_copyFrom_32 : decode cX3_copyFrom 32 = .ok (.putfield 29, 3) := by decide +kernel
theorem dX3_copyFrom_35 : decode cX3_copyFrom 35 = .ok (.aload_n 0, 1) := by decide +kernel
theorem dX3_copyFrom_36 : decode cX3_copyFrom 36 = .ok (.aload_n 1, 1) := by decide +kernel
theorem dX3_copyFrom_37 : decode cX3_copyFrom 37 = .ok (.getfield 32, 3) := by decide +kernel
theorem dX3_copyFrom_40 : decode cX3_copyFrom 40 = .ok (.putfield 32, 3) := by decide +kernel
theorem dX3_copyFrom_43 : decode cX3_copyFrom 43 = .ok (.return_, 1) := by decide +kernel
theorem dX4_init_0 : decode cX4_init 0 = .ok (.aload_n 0, 1) := by decide +kernel
theorem dX4_init_1 : decode cX4_init 1 = .ok (.invokespecial 3, 3) := by decide +kernel
theorem dX4_init_4 : decode cX4_init 4 = .ok (.aload_n 0, 1) := by decide +kernel
theorem dX4_init_5 : decode cX4_init 5 = .ok (.bipush 60, 2) := by decide +kernel
theorem dX4_init_7 : decode cX4_init 7 = .ok (.newarray .int, 2) := by decide +kernel
theorem dX4_init_9 : decode cX4_init 9 = .ok (.putfield 9, 3) := by decide +kernel
theorem dX4_init_12 : decode cX4_init 12 = .ok (.return_, 1) := by decide +kernel
theorem dX4_isFull_0 : decode cX4_isFull 0 = .ok (.aload_n 0, 1) := by decide +kernel
theorem dX4_isFull_1 : decode cX4_isFull 1 = .ok (.getfield 15, 3) := by decide +kernel
theorem dX4_isFull_4 : decode cX4_isFull 4 = .ok (.bipush 60, 2) := by decide +kernel
theorem dX4_isFull_6 : decode cX4_isFull 6 = .ok (.if_icmp .lt 7, 3) := by decide +kernel
theorem dX4_isFull_9 : decode cX4_isFull 9 = .ok (.iconst 1, 1) := by decide +kernel
theorem dX4_isFull_10 : decode cX4_isFull 10 = .ok (.goto 4, 3) := by decide +kernel
theorem dX4_isFull_13 : decode cX4_isFull 13 = .ok (.iconst 0, 1) := by decide +kernel
theorem dX4_isFull_14 : decode cX4_isFull 14 = .ok (.ireturn, 1) := by decide +kernel
theorem dX4_add_0 : decode cX4_add 0 = .ok (.aload_n 0, 1) := by decide +kernel
theorem dX4_add_1 : decode cX4_add 1 = .ok (.invokevirtual 19, 3) := by decide +kernel
theorem dX4_add_4 : decode cX4_add 4 = .ok (.ifCond .ne 23, 3) := by decide +kernel
theorem dX4_add_7 : decode cX4_add 7 = .ok (.aload_n 0, 1) := by decide +kernel
theorem dX4_add_8 : decode cX4_add 8 = .ok (.getfield 9, 3) := by decide +kernel
theorem dX4_add_11 : decode cX4_add 11 = .ok (.aload_n 0, 1) := by decide +kernel
theorem dX4_add_12 : decode cX4_add 12 = .ok (.getfield 15, 3) := by decide +kernel
theorem dX4_add_15 : decode cX4_add 15 = .ok (.iload_n 1, 1) := by decide +kernel
theorem dX4_add_16 : decode cX4_add 16 = .ok (.iastore, 1) := by decide +kernel
theorem dX4_add_17 : decode cX4_add 17 = .ok (.aload_n 0, 1) := by decide +kernel
theorem dX4_add_18 : decode cX4_add 18 = .ok (.dup, 1) := by decide +kernel
theorem dX4_add_19 : decode cX4_add 19 = .ok (.getfield 15, 3) := by decide +kernel
theorem dX4_add_22 : decode cX4_add 22 = .ok (.iconst 1, 1) := by decide +kernel
theorem dX4_add_23 : decode cX4_add 23 = .ok (.iadd, 1) := by decide +kernel
theorem dX4_add_24 : decode cX4_add 24 = .ok (.putfield 15, 3) := by decide +kernel
theorem dX4_add_27 : decode cX4_add 27 = .ok (.return_, 1) := by decide +kernel
theorem dX4_empty_0 : decode cX4_empty 0 = .ok (.aload_n 0, 1) := by decide +kernel
theorem dX4_empty_1 : decode cX4_empty 1 = .ok (.iconst 0, 1) := by decide +kernel
theorem dX4_empty_2 : decode cX4_empty 2 = .ok (.putfield 15, 3) := by decide +kernel
theorem dX4_empty_5 : decode cX4_empty 5 = .ok (.return_, 1) := by decide +kernel
theorem dX4_codeAt_0 : decode cX4_codeAt 0 = .ok (.iload_n 1, 1) := by decide +kernel
theorem dX4_codeAt_1 : decode cX4_codeAt 1 = .ok (.ifCond .lt 11, 3) := by decide +kernel
theorem dX4_codeAt_4 : decode cX4_codeAt 4 = .ok (.iload_n 1, 1) := by decide +kernel
theorem dX4_codeAt_5 : decode cX4_codeAt 5 = .ok (.aload_n 0, 1) := by decide +kernel
theorem dX4_codeAt_6 : decode cX4_codeAt 6 = .ok (.getfield 15, 3) := by decide +kernel
theorem dX4_codeAt_9 : decode cX4_codeAt 9 = .ok (.if_icmp .lt 7, 3) := by decide +kernel
theorem dX4_codeAt_12 : decode cX4_codeAt 12 = .ok (.iconst 0, 1) := by decide +kernel
theorem dX4_codeAt_13 : decode cX4_codeAt 13 = .ok (.goto 9, 3) := by decide +kernel
theorem dX4_codeAt_16 : decode cX4_codeAt 16 = .ok (.aload_n 0, 1) := by decide +kernel
theorem dX4_codeAt_17 : decode cX4_codeAt 17 = .ok (.getfield 9, 3) := by decide +kernel
theorem dX4_codeAt_20 : decode cX4_codeAt 20 = .ok (.iload_n 1, 1) := by decide +kernel
theorem dX4_codeAt_21 : decode cX4_codeAt 21 = .ok (.iaload, 1) := by decide +kernel
theorem dX4_codeAt_22 : decode cX4_codeAt 22 = .ok (.ireturn, 1) := by decide +kernel
theorem dX4_slotAt_0 : decode cX4_slotAt 0 = .ok (.aload_n 0, 1) := by decide +kernel
theorem dX4_slotAt_1 : decode cX4_slotAt 1 = .ok (.iload_n 1, 1) := by decide +kernel
theorem dX4_slotAt_2 : decode cX4_slotAt 2 = .ok (.invokevirtual 23, 3) := by decide +kernel
theorem dX4_slotAt_5 : decode cX4_slotAt 5 = .ok (.istore_n 2, 1) := by decide +kernel
theorem dX4_slotAt_6 : decode cX4_slotAt 6 = .ok (.iload_n 2, 1) := by decide +kernel
theorem dX4_slotAt_7 : decode cX4_slotAt 7 = .ok (.invokestatic 27, 3) := by decide +kernel
theorem dX4_slotAt_10 : decode cX4_slotAt 10 = .ok (.ifCond .eq 10, 3) := by decide +kernel
theorem dX4_slotAt_13 : decode cX4_slotAt 13 = .ok (.iload_n 2, 1) := by decide +kernel
theorem dX4_slotAt_14 : decode cX4_slotAt 14 = .ok (.bipush 48, 2) := by decide +kernel
theorem dX4_slotAt_16 : decode cX4_slotAt 16 = .ok (.isub, 1) := by decide +kernel
theorem dX4_slotAt_17 : decode cX4_slotAt 17 = .ok (.goto 4, 3) := by decide +kernel
theorem dX4_slotAt_20 : decode cX4_slotAt 20 = .ok (.iconst 0, 1) := by decide +kernel
theorem dX4_slotAt_21 : decode cX4_slotAt 21 = .ok (.ireturn, 1) := by decide +kernel
theorem dX4_isSlot_0 : decode cX4_isSlot 0 = .ok (.iload_n 0, 1) := by decide +kernel
theorem dX4_isSlot_1 : decode cX4_isSlot 1 = .ok (.bipush 48, 2) := by decide +kernel
theorem dX4_isSlot_3 : decode cX4_isSlot 3 = .ok (.if_icmp .lt 13, 3) := by decide +kernel
theorem dX4_isSlot_6 : decode cX4_isSlot 6 = .ok (.iload_n 0, 1) := by decide +kernel
theorem dX4_isSlot_7 : decode cX4_isSlot 7 = .ok (.bipush 54, 2) := by decide +kernel
theorem dX4_isSlot_9 : decode cX4_isSlot 9 = .ok (.if_icmp .ge 7, 3) := by decide +kernel
theorem dX4_isSlot_12 : decode cX4_isSlot 12 = .ok (.iconst 1, 1) := by decide +kernel
theorem dX4_isSlot_13 : decode cX4_isSlot 13 = .ok (.goto 4, 3) := by decide +kernel
theorem dX4_isSlot_16 : decode cX4_isSlot 16 = .ok (.iconst 0, 1) := by decide +kernel
theorem dX4_isSlot_17 : decode cX4_isSlot 17 = .ok (.ireturn, 1) := by decide +kernel
theorem dX4_digitsOf_0 : decode cX4_digitsOf 0 = .ok (.iload_n 0, 1) := by decide +kernel
theorem dX4_digitsOf_1 : decode cX4_digitsOf 1 = .ok (.tableswitch 107 98 119 #[103, 103, 107, 105, 107, 107, 107, 105, 107, 107, 105, 107, 107, 107, 103, 107, 107, 103, 107, 107, 107, 103], 103) := by decide +kernel
theorem dX4_digitsOf_104 : decode cX4_digitsOf 104 = .ok (.iconst 2, 1) := by decide +kernel
theorem dX4_digitsOf_105 : decode cX4_digitsOf 105 = .ok (.ireturn, 1) := by decide +kernel
theorem dX4_digitsOf_106 : decode cX4_digitsOf 106 = .ok (.iconst 1, 1) := by decide +kernel
theorem dX4_digitsOf_107 : decode cX4_digitsOf 107 = .ok (.ireturn, 1) := by decide +kernel
theorem dX4_digitsOf_108 : decode cX4_digitsOf 108 = .ok (.iconst 0, 1) := by decide +kernel
theorem dX4_digitsOf_109 : decode cX4_digitsOf 109 = .ok (.ireturn, 1) := by decide +kernel
theorem dX4_firstWrong_0 : decode cX4_firstWrong 0 = .ok (.iconst 0, 1) := by decide +kernel
theorem dX4_firstWrong_1 : decode cX4_firstWrong 1 = .ok (.istore_n 1, 1) := by decide +kernel
theorem dX4_firstWrong_2 : decode cX4_firstWrong 2 = .ok (.iconst 0, 1) := by decide +kernel
theorem dX4_firstWrong_3 : decode cX4_firstWrong 3 = .ok (.istore_n 2, 1) := by decide +kernel
theorem dX4_firstWrong_4 : decode cX4_firstWrong 4 = .ok (.iload_n 2, 1) := by decide +kernel
theorem dX4_firstWrong_5 : decode cX4_firstWrong 5 = .ok (.aload_n 0, 1) := by decide +kernel
theorem dX4_firstWrong_6 : decode cX4_firstWrong 6 = .ok (.getfield 15, 3) := by decide +kernel
theorem dX4_firstWrong_9 : decode cX4_firstWrong 9 = .ok (.if_icmp .ge 35, 3) := by decide +kernel
theorem dX4_firstWrong_12 : decode cX4_firstWrong 12 = .ok (.aload_n 0, 1) := by decide +kernel
theorem dX4_firstWrong_13 : decode cX4_firstWrong 13 = .ok (.iload_n 2, 1) := by decide +kernel
theorem dX4_firstWrong_14 : decode cX4_firstWrong 14 = .ok (.iload_n 1, 1) := by decide +kernel
theorem dX4_firstWrong_15 : decode cX4_firstWrong 15 = .ok (.invokevirtual 31, 3) := by decide +kernel
theorem dX4_firstWrong_18 : decode cX4_firstWrong 18 = .ok (.ifCond .ne 5, 3) := by decide +kernel
theorem dX4_firstWrong_21 : decode cX4_firstWrong 21 = .ok (.iload_n 2, 1) := by decide +kernel
theorem dX4_firstWrong_22 : decode cX4_firstWrong 22 = .ok (.ireturn, 1) := by decide +kernel
theorem dX4_firstWrong_23 : decode cX4_firstWrong 23 = .ok (.aload_n 0, 1) := by decide +kernel
theorem dX4_firstWrong_24 : decode cX4_firstWrong 24 = .ok (.getfield 9, 3) := by decide +kernel
theorem dX4_firstWrong_27 : decode cX4_firstWrong 27 = .ok (.iload_n 2, 1) := by decide +kernel
theorem dX4_firstWrong_28 : decode cX4_firstWrong 28 = .ok (.iaload, 1) := by decide +kernel
theorem dX4_firstWrong_29 : decode cX4_firstWrong 29 = .ok (.bipush 59, 2) := by decide +kernel
theorem dX4_firstWrong_31 : decode cX4_firstWrong 31 = .ok (.if_icmp .ne 7, 3) := by decide +kernel
theorem dX4_firstWrong_34 : decode cX4_firstWrong 34 = .ok (.iload_n 2, 1) := by decide +kernel
theorem dX4_firstWrong_35 : decode cX4_firstWrong 35 = .ok (.iconst 1, 1) := by decide +kernel
theorem dX4_firstWrong_36 : decode cX4_firstWrong 36 = .ok (.iadd, 1) := by decide +kernel
theorem dX4_firstWrong_37 : decode cX4_firstWrong 37 = .ok (.istore_n 1, 1) := by decide +kernel
theorem dX4_firstWrong_38 : decode cX4_firstWrong 38 = .ok (.iinc 2 1, 3) := by decide +kernel
theorem dX4_firstWrong_41 : decode cX4_firstWrong 41 = .ok (.goto (-37), 3) := by decide +kernel
theorem dX4_firstWrong_44 : decode cX4_firstWrong 44 = .ok (.aload_n 0, 1) := by decide +kernel
theorem dX4_firstWrong_45 : decode cX4_firstWrong 45 = .ok (.getfield 15, 3) := by decide +kernel
theorem dX4_firstWrong_48 : decode cX4_firstWrong 48 = .ok (.ireturn, 1) := by decide +kernel
theorem dX4_fits_0 : decode cX4_fits 0 = .ok (.aload_n 0, 1) := by decide +kernel
theorem dX4_fits_1 : decode cX4_fits 1 = .ok (.iload_n 1, 1) := by decide +kernel
theorem dX4_fits_2 : decode cX4_fits 2 = .ok (.invokevirtual 23, 3) := by decide +kernel
theorem dX4_fits_5 : decode cX4_fits 5 = .ok (.istore_n 3, 1) := by decide +kernel
theorem dX4_fits_6 : decode cX4_fits 6 = .ok (.aload_n 0, 1) := by decide +kernel
theorem dX4_fits_7 : decode cX4_fits 7 = .ok (.iload_n 2, 1) := by decide +kernel
theorem dX4_fits_8 : decode cX4_fits 8 = .ok (.invokevirtual 23, 3) := by decide +kernel
theorem dX4_fits_11 : decode cX4_fits 11 = .ok (.invokestatic 35, 3) := by decide +kernel
theorem dX4_fits_14 : decode cX4_fits 14 = .ok (.istore 4, 2) := by decide +kernel
theorem dX4_fits_16 : decode cX4_fits 16 = .ok (.iload_n 1, 1) := by decide +kernel
theorem dX4_fits_17 : decode cX4_fits 17 = .ok (.iload_n 2, 1) := by decide +kernel
theorem dX4_fits_18 : decode cX4_fits 18 = .ok (.isub, 1) := by decide +kernel
theorem dX4_fits_19 : decode cX4_fits 19 = .ok (.istore 5, 2) := by decide +kernel
theorem dX4_fits_21 : decode cX4_fits 21 = .ok (.iload 5, 2) := by decide +kernel
theorem dX4_fits_23 : decode cX4_fits 23 = .ok (.ifCond .ne 14, 3) := by decide +kernel
theorem dX4_fits_26 : decode cX4_fits 26 = .ok (.iload 4, 2) := by decide +kernel
theorem dX4_fits_28 : decode cX4_fits 28 = .ok (.ifCond .le 7, 3) := by decide +kernel
theorem dX4_fits_31 : decode cX4_fits 31 = .ok (.iconst 1, 1) := by decide +kernel
theorem dX4_fits_32 : decode cX4_fits 32 = .ok (.goto 4, 3) := by decide +kernel
theorem dX4_fits_35 : decode cX4_fits 35 = .ok (.iconst 0, 1) := by decide +kernel
theorem dX4_fits_36 : decode cX4_fits 36 = .ok (.ireturn, 1) := by decide +kernel
theorem dX4_fits_37 : decode cX4_fits 37 = .ok (.iload 5, 2) := by decide +kernel
theorem dX4_fits_39 : decode cX4_fits 39 = .ok (.iload 4, 2) := by decide +kernel
theorem dX4_fits_41 : decode cX4_fits 41 = .ok (.iconst 1, 1) := by decide +kernel
theorem dX4_fits_42 : decode cX4_fits 42 = .ok (.iadd, 1) := by decide +kernel
theorem dX4_fits_43 : decode cX4_fits 43 = .ok (.if_icmp .ne 15, 3) := by decide +kernel
theorem dX4_fits_46 : decode cX4_fits 46 = .ok (.iload_n 3, 1) := by decide +kernel
theorem dX4_fits_47 : decode cX4_fits 47 = .ok (.bipush 62, 2) := by decide +kernel
theorem dX4_fits_49 : decode cX4_fits 49 = .ok (.if_icmp .ne 7, 3) := by decide +kernel
theorem dX4_fits_52 : decode cX4_fits 52 = .ok (.iconst 1, 1) := by decide +kernel
theorem dX4_fits_53 : decode cX4_fits 53 = .ok (.goto 4, 3) := by decide +kernel
theorem dX4_fits_56 : decode cX4_fits 56 = .ok (.iconst 0, 1) := by decide +kernel
theorem dX4_fits_57 : decode cX4_fits 57 = .ok (.ireturn, 1) := by decide +kernel
theorem dX4_fits_58 : decode cX4_fits 58 = .ok (.iload 5, 2) := by decide +kernel
theorem dX4_fits_60 : decode cX4_fits 60 = .ok (.iload 4, 2) := by decide +kernel
theorem dX4_fits_62 : decode cX4_fits 62 = .ok (.iconst 3, 1) := by decide +kernel
theorem dX4_fits_63 : decode cX4_fits 63 = .ok (.iadd, 1) := by decide +kernel
theorem dX4_fits_64 : decode cX4_fits 64 = .ok (.if_icmp .ne 15, 3) := by decide +kernel
theorem dX4_fits_67 : decode cX4_fits 67 = .ok (.iload_n 3, 1) := by decide +kernel
theorem dX4_fits_68 : decode cX4_fits 68 = .ok (.bipush 59, 2) := by decide +kernel
theorem dX4_fits_70 : decode cX4_fits 70 = .ok (.if_icmp .ne 7, 3) := by decide +kernel
theorem dX4_fits_73 : decode cX4_fits 73 = .ok (.iconst 1, 1) := by decide +kernel
theorem dX4_fits_74 : decode cX4_fits 74 = .ok (.goto 4, 3) := by decide +kernel
theorem dX4_fits_77 : decode cX4_fits 77 = .ok (.iconst 0, 1) := by decide +kernel
theorem dX4_fits_78 : decode cX4_fits 78 = .ok (.ireturn, 1) := by decide +kernel
theorem dX4_fits_79 : decode cX4_fits 79 = .ok (.iload_n 3, 1) := by decide +kernel
theorem dX4_fits_80 : decode cX4_fits 80 = .ok (.invokestatic 27, 3) := by decide +kernel
theorem dX4_fits_83 : decode cX4_fits 83 = .ok (.ireturn, 1) := by decide +kernel
theorem dX4_isProgram_0 : decode cX4_isProgram 0 = .ok (.aload_n 0, 1) := by decide +kernel
theorem dX4_isProgram_1 : decode cX4_isProgram 1 = .ok (.invokevirtual 38, 3) := by decide +kernel
theorem dX4_isProgram_4 : decode cX4_isProgram 4 = .ok (.aload_n 0, 1) := by decide +kernel
theorem dX4_isProgram_5 : decode cX4_isProgram 5 = .ok (.getfield 15, 3) := by decide +kernel
theorem dX4_isProgram_8 : decode cX4_isProgram 8 = .ok (.if_icmp .ne 22, 3) := by decide +kernel
theorem dX4_isProgram_11 : decode cX4_isProgram 11 = .ok (.aload_n 0, 1) := by decide +kernel
theorem dX4_isProgram_12 : decode cX4_isProgram 12 = .ok (.aload_n 0, 1) := by decide +kernel
theorem dX4_isProgram_13 : decode cX4_isProgram 13 = .ok (.getfield 15, 3) := by decide +kernel
theorem dX4_isProgram_16 : decode cX4_isProgram 16 = .ok (.iconst 2, 1) := by decide +kernel
theorem dX4_isProgram_17 : decode cX4_isProgram 17 = .ok (.isub, 1) := by decide +kernel
theorem dX4_isProgram_18 : decode cX4_isProgram 18 = .ok (.invokevirtual 23, 3) := by decide +kernel
theorem dX4_isProgram_21 : decode cX4_isProgram 21 = .ok (.bipush 62, 2) := by decide +kernel
theorem dX4_isProgram_23 : decode cX4_isProgram 23 = .ok (.if_icmp .ne 7, 3) := by decide +kernel
theorem dX4_isProgram_26 : decode cX4_isProgram 26 = .ok (.iconst 1, 1) := by decide +kernel
theorem dX4_isProgram_27 : decode cX4_isProgram 27 = .ok (.goto 4, 3) := by decide +kernel
theorem dX4_isProgram_30 : decode cX4_isProgram 30 = .ok (.iconst 0, 1) := by decide +kernel
theorem dX4_isProgram_31 : decode cX4_isProgram 31 = .ok (.ireturn, 1) := by decide +kernel
theorem dX4_hashFrom_0 : decode cX4_hashFrom 0 = .ok (.ldc2_w 42, 3) := by decide +kernel
theorem dX4_hashFrom_3 : decode cX4_hashFrom 3 = .ok (.lload_n 1, 1) := by decide +kernel
theorem dX4_hashFrom_4 : decode cX4_hashFrom 4 = .ok (.lmul, 1) := by decide +kernel
theorem dX4_hashFrom_5 : decode cX4_hashFrom 5 = .ok (.aload_n 0, 1) := by decide +kernel
theorem dX4_hashFrom_6 : decode cX4_hashFrom 6 = .ok (.getfield 15, 3) := by decide +kernel
theorem dX4_hashFrom_9 : decode cX4_hashFrom 9 = .ok (.i2l, 1) := by decide +kernel
theorem dX4_hashFrom_10 : decode cX4_hashFrom 10 = .ok (.ladd, 1) := by decide +kernel
theorem dX4_hashFrom_11 : decode cX4_hashFrom 11 = .ok (.lstore_n 3, 1) := by decide +kernel
theorem dX4_hashFrom_12 : decode cX4_hashFrom 12 = .ok (.iconst 0, 1) := by decide +kernel
theorem dX4_hashFrom_13 : decode cX4_hashFrom 13 = .ok (.istore 5, 2) := by decide +kernel
theorem dX4_hashFrom_15 : decode cX4_hashFrom 15 = .ok (.iload 5, 2) := by decide +kernel
theorem dX4_hashFrom_17 : decode cX4_hashFrom 17 = .ok (.aload_n 0, 1) := by decide +kernel
theorem dX4_hashFrom_18 : decode cX4_hashFrom 18 = .ok (.getfield 15, 3) := by decide +kernel
theorem dX4_hashFrom_21 : decode cX4_hashFrom 21 = .ok (.if_icmp .ge 24, 3) := by decide +kernel
theorem dX4_hashFrom_24 : decode cX4_hashFrom 24 = .ok (.ldc2_w 42, 3) := by decide +kernel
theorem dX4_hashFrom_27 : decode cX4_hashFrom 27 = .ok (.lload_n 3, 1) := by decide +kernel
theorem dX4_hashFrom_28 : decode cX4_hashFrom 28 = .ok (.lmul, 1) := by decide +kernel
theorem dX4_hashFrom_29 : decode cX4_hashFrom 29 = .ok (.aload_n 0, 1) := by decide +kernel
theorem dX4_hashFrom_30 : decode cX4_hashFrom 30 = .ok (.getfield 9, 3) := by decide +kernel
theorem dX4_hashFrom_33 : decode cX4_hashFrom 33 = .ok (.iload 5, 2) := by decide +kernel
theorem dX4_hashFrom_35 : decode cX4_hashFrom 35 = .ok (.iaload, 1) := by decide +kernel
theorem dX4_hashFrom_36 : decode cX4_hashFrom 36 = .ok (.i2l, 1) := by decide +kernel
theorem dX4_hashFrom_37 : decode cX4_hashFrom 37 = .ok (.ladd, 1) := by decide +kernel
theorem dX4_hashFrom_38 : decode cX4_hashFrom 38 = .ok (.lstore_n 3, 1) := by decide +kernel
theorem dX4_hashFrom_39 : decode cX4_hashFrom 39 = .ok (.iinc 5 1, 3) := by decide +kernel
theorem dX4_hashFrom_42 : decode cX4_hashFrom 42 = .ok (.goto (-27), 3) := by decide +kernel
theorem dX4_hashFrom_45 : decode cX4_hashFrom 45 = .ok (.lload_n 3, 1) := by decide +kernel
theorem dX4_hashFrom_46 : decode cX4_hashFrom 46 = .ok (.lreturn, 1) := by decide +kernel
theorem dX5_init_0 : decode cX5_init 0 = .ok (.aload_n 0, 1) := by decide +kernel
theorem dX5_init_1 : decode cX5_init 1 = .ok (.invokespecial 3, 3) := by decide +kernel
theorem dX5_init_4 : decode cX5_init 4 = .ok (.aload_n 0, 1) := by decide +kernel
theorem dX5_init_5 : decode cX5_init 5 = .ok (.new 9, 3) := by decide +kernel
theorem dX5_init_8 : decode cX5_init 8 = .ok (.dup, 1) := by decide +kernel
theorem dX5_init_9 : decode cX5_init 9 = .ok (.invokespecial 11, 3) := by decide +kernel
theorem dX5_init_12 : decode cX5_init 12 = .ok (.putfield 12, 3) := by decide +kernel
theorem dX5_init_15 : decode cX5_init 15 = .ok (.aload_n 0, 1) := by decide +kernel
theorem dX5_init_16 : decode cX5_init 16 = .ok (.new 16, 3) := by decide +kernel
theorem dX5_init_19 : decode cX5_init 19 = .ok (.dup, 1) := by decide +kernel
theorem dX5_init_20 : decode cX5_init 20 = .ok (.invokespecial 18, 3) := by decide +kernel
theorem dX5_init_23 : decode cX5_init 23 = .ok (.putfield 19, 3) := by decide +kernel
theorem dX5_init_26 : decode cX5_init 26 = .ok (.aload_n 0, 1) := by decide +kernel
theorem dX5_init_27 : decode cX5_init 27 = .ok (.iconst 2, 1) := by decide +kernel
theorem dX5_init_28 : decode cX5_init 28 = .ok (.anewarray 23, 3) := by decide +kernel
theorem dX5_init_31 : decode cX5_init 31 = .ok (.putfield 25, 3) := by decide +kernel
theorem dX5_init_34 : decode cX5_init 34 = .ok (.iconst 0, 1) := by decide +kernel
theorem dX5_init_35 : decode cX5_init 35 = .ok (.istore_n 1, 1) := by decide +kernel
theorem dX5_init_36 : decode cX5_init 36 = .ok (.iload_n 1, 1) := by decide +kernel
theorem dX5_init_37 : decode cX5_init 37 = .ok (.iconst 2, 1) := by decide +kernel
theorem dX5_init_38 : decode cX5_init 38 = .ok (.if_icmp .ge 22, 3) := by decide +kernel
theorem dX5_init_41 : decode cX5_init 41 = .ok (.aload_n 0, 1) := by decide +kernel
theorem dX5_init_42 : decode cX5_init 42 = .ok (.getfield 25, 3) := by decide +kernel
theorem dX5_init_45 : decode cX5_init 45 = .ok (.iload_n 1, 1) := by decide +kernel
theorem dX5_init_46 : decode cX5_init 46 = .ok (.new 23, 3) := by decide +kernel
theorem dX5_init_49 : decode cX5_init 49 = .ok (.dup, 1) := by decide +kernel
theorem dX5_init_50 : decode cX5_init 50 = .ok (.invokespecial 29, 3) := by decide +kernel
theorem dX5_init_53 : decode cX5_init 53 = .ok (.aastore, 1) := by decide +kernel
theorem dX5_init_54 : decode cX5_init 54 = .ok (.iinc 1 1, 3) := by decide +kernel
theorem dX5_init_57 : decode cX5_init 57 = .ok (.goto (-21), 3) := by decide +kernel
theorem dX5_init_60 : decode cX5_init 60 = .ok (.aload_n 0, 1) := by decide +kernel
theorem dX5_init_61 : decode cX5_init 61 = .ok (.iconst 2, 1) := by decide +kernel
theorem dX5_init_62 : decode cX5_init 62 = .ok (.newarray .boolean, 2) := by decide +kernel
theorem dX5_init_64 : decode cX5_init 64 = .ok (.putfield 30, 3) := by decide +kernel
theorem dX5_init_67 : decode cX5_init 67 = .ok (.aload_n 0, 1) := by decide +kernel
theorem dX5_init_68 : decode cX5_init 68 = .ok (.new 34, 3) := by decide +kernel
theorem dX5_init_71 : decode cX5_init 71 = .ok (.dup, 1) := by decide +kernel
theorem dX5_init_72 : decode cX5_init 72 = .ok (.invokespecial 36, 3) := by decide +kernel
theorem dX5_init_75 : decode cX5_init 75 = .ok (.putfield 37, 3) := by decide +kernel
theorem dX5_init_78 : decode cX5_init 78 = .ok (.aload_n 0, 1) := by decide +kernel
theorem dX5_init_79 : decode cX5_init 79 = .ok (.new 41, 3) := by decide +kernel
theorem dX5_init_82 : decode cX5_init 82 = .ok (.dup, 1) := by decide +kernel
theorem dX5_init_83 : decode cX5_init 83 = .ok (.invokespecial 43, 3) := by decide +kernel
theorem dX5_init_86 : decode cX5_init 86 = .ok (.putfield 44, 3) := by decide +kernel
theorem dX5_init_89 : decode cX5_init 89 = .ok (.aload_n 0, 1) := by decide +kernel
theorem dX5_init_90 : decode cX5_init 90 = .ok (.bipush 7, 2) := by decide +kernel
theorem dX5_init_92 : decode cX5_init 92 = .ok (.newarray .int, 2) := by decide +kernel
theorem dX5_init_94 : decode cX5_init 94 = .ok (.putfield 48, 3) := by decide +kernel
theorem dX5_init_97 : decode cX5_init 97 = .ok (.aload_n 0, 1) := by decide +kernel
theorem dX5_init_98 : decode cX5_init 98 = .ok (.bipush 7, 2) := by decide +kernel
theorem dX5_init_100 : decode cX5_init 100 = .ok (.newarray .int, 2) := by decide +kernel
theorem dX5_init_102 : decode cX5_init 102 = .ok (.putfield 52, 3) := by decide +kernel
theorem dX5_init_105 : decode cX5_init 105 = .ok (.return_, 1) := by decide +kernel
theorem dX5_cut_0 : decode cX5_cut 0 = .ok (.iload_n 1, 1) := by decide +kernel
theorem dX5_cut_1 : decode cX5_cut 1 = .ok (.iconst 2, 1) := by decide +kernel
theorem dX5_cut_2 : decode cX5_cut 2 = .ok (.if_icmp .lt 9, 3) := by decide +kernel
theorem dX5_cut_5 : decode cX5_cut 5 = .ok (.iload_n 1, 1) := by decide +kernel
theorem dX5_cut_6 : decode cX5_cut 6 = .ok (.bipush 6, 2) := by decide +kernel
theorem dX5_cut_8 : decode cX5_cut 8 = .ok (.if_icmp .le 13, 3) := by decide +kernel
theorem dX5_cut_11 : decode cX5_cut 11 = .ok (.new 55, 3) := by decide +kernel
theorem dX5_cut_14 : decode cX5_cut 14 = .ok (.dup, 1) := by decide +kernel
theorem dX5_cut_15 : decode cX5_cut 15 = .ok (.ldc 57, 2) := by decide +kernel
theorem dX5_cut_17 : decode cX5_cut 17 = .ok (.invokespecial 59, 3) := by decide +kernel
theorem dX5_cut_20 : decode cX5_cut 20 = .ok (.athrow, 1) := by decide +kernel
theorem dX5_cut_21 : decode cX5_cut 21 = .ok (.aload_n 0, 1) := by decide +kernel
theorem dX5_cut_22 : decode cX5_cut 22 = .ok (.getfield 19, 3) := by decide +kernel
theorem dX5_cut_25 : decode cX5_cut 25 = .ok (.aload_n 0, 1) := by decide +kernel
theorem dX5_cut_26 : decode cX5_cut 26 = .ok (.getfield 12, 3) := by decide +kernel
theorem dX5_cut_29 : decode cX5_cut 29 = .ok (.invokevirtual 62, 3) := by decide +kernel
theorem dX5_cut_32 : decode cX5_cut 32 = .ok (.aload_n 0, 1) := by decide +kernel
theorem dX5_cut_33 : decode cX5_cut 33 = .ok (.getfield 12, 3) := by decide +kernel
theorem dX5_cut_36 : decode cX5_cut 36 = .ok (.getfield 66, 3) := by decide +kernel
theorem dX5_cut_39 : decode cX5_cut 39 = .ok (.getfield 70, 3) := by decide +kernel
theorem dX5_cut_42 : decode cX5_cut 42 = .ok (.istore_n 2, 1) := by decide +kernel
theorem dX5_cut_43 : decode cX5_cut 43 = .ok (.aload_n 0, 1) := by decide +kernel
theorem dX5_cut_44 : decode cX5_cut 44 = .ok (.getfield 12, 3) := by decide +kernel
theorem dX5_cut_47 : decode cX5_cut 47 = .ok (.getfield 66, 3) := by decide +kernel
theorem dX5_cut_50 : decode cX5_cut 50 = .ok (.iload_n 1, 1) := by decide +kernel
theorem dX5_cut_51 : decode cX5_cut 51 = .ok (.invokevirtual 74, 3) := by decide +kernel
theorem dX5_cut_54 : decode cX5_cut 54 = .ok (.iload_n 2, 1) := by decide +kernel
theorem dX5_cut_55 : decode cX5_cut 55 = .ok (.ireturn, 1) := by decide +kernel
theorem dX5_setField_0 : decode cX5_setField 0 = .ok (.iload_n 1, 1) := by decide +kernel
theorem dX5_setField_1 : decode cX5_setField 1 = .ok (.invokestatic 78, 3) := by decide +kernel
theorem dX5_setField_4 : decode cX5_setField 4 = .ok (.iload_n 2, 1) := by decide +kernel
theorem dX5_setField_5 : decode cX5_setField 5 = .ok (.iconst 2, 1) := by decide +kernel
theorem dX5_setField_6 : decode cX5_setField 6 = .ok (.aload_n 0, 1) := by decide +kernel
theorem dX5_setField_7 : decode cX5_setField 7 = .ok (.getfield 12, 3) := by decide +kernel
theorem dX5_setField_10 : decode cX5_setField 10 = .ok (.getfield 66, 3) := by decide +kernel
theorem dX5_setField_13 : decode cX5_setField 13 = .ok (.getfield 70, 3) := by decide +kernel
theorem dX5_setField_16 : decode cX5_setField 16 = .ok (.invokestatic 81, 3) := by decide +kernel
theorem dX5_setField_19 : decode cX5_setField 19 = .ok (.aload_n 0, 1) := by decide +kernel
theorem dX5_setField_20 : decode cX5_setField 20 = .ok (.getfield 19, 3) := by decide +kernel
theorem dX5_setField_23 : decode cX5_setField 23 = .ok (.aload_n 0, 1) := by decide +kernel
theorem dX5_setField_24 : decode cX5_setField 24 = .ok (.getfield 12, 3) := by decide +kernel
theorem dX5_setField_27 : decode cX5_setField 27 = .ok (.invokevirtual 62, 3) := by decide +kernel
theorem dX5_setField_30 : decode cX5_setField 30 = .ok (.aload_n 0, 1) := by decide +kernel
theorem dX5_setField_31 : decode cX5_setField 31 = .ok (.getfield 12, 3) := by decide +kernel
theorem dX5_setField_34 : decode cX5_setField 34 = .ok (.getfield 66, 3) := by decide +kernel
theorem dX5_setField_37 : decode cX5_setField 37 = .ok (.getfield 85, 3) := by decide +kernel
theorem dX5_setField_40 : decode cX5_setField 40 = .ok (.iload_n 1, 1) := by decide +kernel
theorem dX5_setField_41 : decode cX5_setField 41 = .ok (.aaload, 1) := by decide +kernel
theorem dX5_setField_42 : decode cX5_setField 42 = .ok (.iload_n 2, 1) := by decide +kernel
theorem dX5_setField_43 : decode cX5_setField 43 = .ok (.iload_n 3, 1) := by decide +kernel
theorem dX5_setField_44 : decode cX5_setField 44 = .ok (.invokestatic 89, 3) := by decide +kernel
theorem dX5_setField_47 : decode cX5_setField 47 = .ok (.ireturn, 1) := by decide +kernel
theorem dX5_setFlow_0 : decode cX5_setFlow 0 = .ok (.iload_n 1, 1) := by decide +kernel
theorem dX5_setFlow_1 : decode cX5_setFlow 1 = .ok (.invokestatic 78, 3) := by decide +kernel
theorem dX5_setFlow_4 : decode cX5_setFlow 4 = .ok (.iload_n 2, 1) := by decide +kernel
theorem dX5_setFlow_5 : decode cX5_setFlow 5 = .ok (.iconst 2, 1) := by decide +kernel
theorem dX5_setFlow_6 : decode cX5_setFlow 6 = .ok (.aload_n 0, 1) := by decide +kernel
theorem dX5_setFlow_7 : decode cX5_setFlow 7 = .ok (.getfield 12, 3) := by decide +kernel
theorem dX5_setFlow_10 : decode cX5_setFlow 10 = .ok (.getfield 66, 3) := by decide +kernel
theorem dX5_setFlow_13 : decode cX5_setFlow 13 = .ok (.getfield 70, 3) := by decide +kernel
theorem dX5_setFlow_16 : decode cX5_setFlow 16 = .ok (.invokestatic 81, 3) := by decide +kernel
theorem dX5_setFlow_19 : decode cX5_setFlow 19 = .ok (.aload_n 0, 1) := by decide +kernel
theorem dX5_setFlow_20 : decode cX5_setFlow 20 = .ok (.getfield 19, 3) := by decide +kernel
theorem dX5_setFlow_23 : decode cX5_setFlow 23 = .ok (.aload_n 0, 1) := by decide +kernel
theorem dX5_setFlow_24 : decode cX5_setFlow 24 = .ok (.getfield 12, 3) := by decide +kernel
theorem dX5_setFlow_27 : decode cX5_setFlow 27 = .ok (.invokevirtual 62, 3) := by decide +kernel
theorem dX5_setFlow_30 : decode cX5_setFlow 30 = .ok (.aload_n 0, 1) := by decide +kernel
theorem dX5_setFlow_31 : decode cX5_setFlow 31 = .ok (.getfield 12, 3) := by decide +kernel
theorem dX5_setFlow_34 : decode cX5_setFlow 34 = .ok (.getfield 66, 3) := by decide +kernel
theorem dX5_setFlow_37 : decode cX5_setFlow 37 = .ok (.getfield 93, 3) := by decide +kernel
theorem dX5_setFlow_40 : decode cX5_setFlow 40 = .ok (.iload_n 1, 1) := by decide +kernel
theorem dX5_setFlow_41 : decode cX5_setFlow 41 = .ok (.aaload, 1) := by decide +kernel
theorem dX5_setFlow_42 : decode cX5_setFlow 42 = .ok (.iload_n 2, 1) := by decide +kernel
theorem dX5_setFlow_43 : decode cX5_setFlow 43 = .ok (.iload_n 3, 1) := by decide +kernel
theorem dX5_setFlow_44 : decode cX5_setFlow 44 = .ok (.invokestatic 89, 3) := by decide +kernel
theorem dX5_setFlow_47 : decode cX5_setFlow 47 = .ok (.ireturn, 1) := by decide +kernel
theorem dX5_earn_0 : decode cX5_earn 0 = .ok (.iload_n 1, 1) := by decide +kernel
theorem dX5_earn_1 : decode cX5_earn 1 = .ok (.iconst 1, 1) := by decide +kernel
theorem dX5_earn_2 : decode cX5_earn 2 = .ok (.if_icmp .lt 10, 3) := by decide +kernel
theorem dX5_earn_5 : decode cX5_earn 5 = .ok (.iload_n 1, 1) := by decide +kernel
theorem dX5_earn_6 : decode cX5_earn 6 = .ok (.sipush 1000, 3) := by decide +kernel
theorem dX5_earn_9 : decode cX5_earn 9 = .ok (.if_icmp .le 13, 3) := by decide +kernel
theorem dX5_earn_12 : decode cX5_earn 12 = .ok (.new 55, 3) := by decide +kernel
theorem dX5_earn_15 : decode cX5_earn 15 = .ok (.dup, 1) := by decide +kernel
theorem dX5_earn_16 : decode cX5_earn 16 = .ok (.ldc 96, 2) := by decide +kernel
theorem dX5_earn_18 : decode cX5_earn 18 = .ok (.invokespecial 59, 3) := by decide +kernel
theorem dX5_earn_21 : decode cX5_earn 21 = .ok (.athrow, 1) := by decide +kernel
theorem dX5_earn_22 : decode cX5_earn 22 = .ok (.aload_n 0, 1) := by decide +kernel
theorem dX5_earn_23 : decode cX5_earn 23 = .ok (.getfield 12, 3) := by decide +kernel
theorem dX5_earn_26 : decode cX5_earn 26 = .ok (.getfield 98, 3) := by decide +kernel
theorem dX5_earn_29 : decode cX5_earn 29 = .ok (.ldc 101, 2) := by decide +kernel
theorem dX5_earn_31 : decode cX5_earn 31 = .ok (.iload_n 1, 1) := by decide +kernel
theorem dX5_earn_32 : decode cX5_earn 32 = .ok (.isub, 1) := by decide +kernel
theorem dX5_earn_33 : decode cX5_earn 33 = .ok (.if_icmp .le 13, 3) := by decide +kernel
theorem dX5_earn_36 : decode cX5_earn 36 = .ok (.new 102, 3) := by decide +kernel
theorem dX5_earn_39 : decode cX5_earn 39 = .ok (.dup, 1) := by decide +kernel
theorem dX5_earn_40 : decode cX5_earn 40 = .ok (.ldc 104, 2) := by decide +kernel
theorem dX5_earn_42 : decode cX5_earn 42 = .ok (.invokespecial 106, 3) := by decide +kernel
theorem dX5_earn_45 : decode cX5_earn 45 = .ok (.athrow, 1) := by decide +kernel
theorem dX5_earn_46 : decode cX5_earn 46 = .ok (.aload_n 0, 1) := by decide +kernel
theorem dX5_earn_47 : decode cX5_earn 47 = .ok (.getfield 19, 3) := by decide +kernel
theorem dX5_earn_50 : decode cX5_earn 50 = .ok (.aload_n 0, 1) := by decide +kernel
theorem dX5_earn_51 : decode cX5_earn 51 = .ok (.getfield 12, 3) := by decide +kernel
theorem dX5_earn_54 : decode cX5_earn 54 = .ok (.invokevirtual 62, 3) := by decide +kernel
theorem dX5_earn_57 : decode cX5_earn 57 = .ok (.aload_n 0, 1) := by decide +kernel
theorem dX5_earn_58 : decode cX5_earn 58 = .ok (.getfield 12, 3) := by decide +kernel
theorem dX5_earn_61 : decode cX5_earn 61 = .ok (.dup, 1) := by decide +kernel
theorem dX5_earn_62 : decode cX5_earn 62 = .ok (.getfield 98, 3) := by decide +kernel
theorem dX5_earn_65 : decode cX5_earn 65 = .ok (.iload_n 1, 1) := by decide +kernel
theorem dX5_earn_66 : decode cX5_earn 66 = .ok (.iadd, 1) := by decide +kernel
theorem dX5_earn_67 : decode cX5_earn 67 = .ok (.putfield 98, 3) := by decide +kernel
theorem dX5_earn_70 : decode cX5_earn 70 = .ok (.aload_n 0, 1) := by decide +kernel
theorem dX5_earn_71 : decode cX5_earn 71 = .ok (.getfield 12, 3) := by decide +kernel
theorem dX5_earn_74 : decode cX5_earn 74 = .ok (.getfield 98, 3) := by decide +kernel
theorem dX5_earn_77 : decode cX5_earn 77 = .ok (.ireturn, 1) := by decide +kernel
theorem dX5_bracket_0 : decode cX5_bracket 0 = .ok (.aload_n 0, 1) := by decide +kernel
theorem dX5_bracket_1 : decode cX5_bracket 1 = .ok (.bipush 98, 2) := by decide +kernel
theorem dX5_bracket_3 : decode cX5_bracket 3 = .ok (.iload_n 1, 1) := by decide +kernel
theorem dX5_bracket_4 : decode cX5_bracket 4 = .ok (.iload_n 2, 1) := by decide +kernel
theorem dX5_bracket_5 : decode cX5_bracket 5 = .ok (.iload_n 3, 1) := by decide +kernel
theorem dX5_bracket_6 : decode cX5_bracket 6 = .ok (.invokevirtual 107, 3) := by decide +kernel
theorem dX5_bracket_9 : decode cX5_bracket 9 = .ok (.ireturn, 1) := by decide +kernel
theorem dX5_sum_0 : decode cX5_sum 0 = .ok (.aload_n 0, 1) := by decide +kernel
theorem dX5_sum_1 : decode cX5_sum 1 = .ok (.bipush 115, 2) := by decide +kernel
theorem dX5_sum_3 : decode cX5_sum 3 = .ok (.iload_n 1, 1) := by decide +kernel
theorem dX5_sum_4 : decode cX5_sum 4 = .ok (.iload_n 2, 1) := by decide +kernel
theorem dX5_sum_5 : decode cX5_sum 5 = .ok (.iload_n 3, 1) := by decide +kernel
theorem dX5_sum_6 : decode cX5_sum 6 = .ok (.invokevirtual 107, 3) := by decide +kernel
theorem dX5_sum_9 : decode cX5_sum 9 = .ok (.ireturn, 1) := by decide +kernel
theorem dX5_scale_0 : decode cX5_scale 0 = .ok (.iload_n 1, 1) := by decide +kernel
theorem dX5_scale_1 : decode cX5_scale 1 = .ok (.invokestatic 78, 3) := by decide +kernel
theorem dX5_scale_4 : decode cX5_scale 4 = .ok (.iload_n 3, 1) := by decide +kernel
theorem dX5_scale_5 : decode cX5_scale 5 = .ok (.invokestatic 78, 3) := by decide +kernel
theorem dX5_scale_8 : decode cX5_scale 8 = .ok (.aload_n 0, 1) := by decide +kernel
theorem dX5_scale_9 : decode cX5_scale 9 = .ok (.iconst 1, 1) := by decide +kernel
theorem dX5_scale_10 : decode cX5_scale 10 = .ok (.invokevirtual 111, 3) := by decide +kernel
theorem dX5_scale_13 : decode cX5_scale 13 = .ok (.aload_n 0, 1) := by decide +kernel
theorem dX5_scale_14 : decode cX5_scale 14 = .ok (.getfield 19, 3) := by decide +kernel
theorem dX5_scale_17 : decode cX5_scale 17 = .ok (.aload_n 0, 1) := by decide +kernel
theorem dX5_scale_18 : decode cX5_scale 18 = .ok (.getfield 12, 3) := by decide +kernel
theorem dX5_scale_21 : decode cX5_scale 21 = .ok (.invokevirtual 62, 3) := by decide +kernel
theorem dX5_scale_24 : decode cX5_scale 24 = .ok (.aload_n 0, 1) := by decide +kernel
theorem dX5_scale_25 : decode cX5_scale 25 = .ok (.iconst 1, 1) := by decide +kernel
theorem dX5_scale_26 : decode cX5_scale 26 = .ok (.invokevirtual 114, 3) := by decide +kernel
theorem dX5_scale_29 : decode cX5_scale 29 = .ok (.aload_n 0, 1) := by decide +kernel
theorem dX5_scale_30 : decode cX5_scale 30 = .ok (.getfield 12, 3) := by decide +kernel
theorem dX5_scale_33 : decode cX5_scale 33 = .ok (.getfield 66, 3) := by decide +kernel
theorem dX5_scale_36 : decode cX5_scale 36 = .ok (.getfield 85, 3) := by decide +kernel
theorem dX5_scale_39 : decode cX5_scale 39 = .ok (.iload_n 1, 1) := by decide +kernel
theorem dX5_scale_40 : decode cX5_scale 40 = .ok (.aaload, 1) := by decide +kernel
theorem dX5_scale_41 : decode cX5_scale 41 = .ok (.iload_n 2, 1) := by decide +kernel
theorem dX5_scale_42 : decode cX5_scale 42 = .ok (.sipush 10007, 3) := by decide +kernel
theorem dX5_scale_45 : decode cX5_scale 45 = .ok (.invokestatic 117, 3) := by decide +kernel
theorem dX5_scale_48 : decode cX5_scale 48 = .ok (.aload_n 0, 1) := by decide +kernel
theorem dX5_scale_49 : decode cX5_scale 49 = .ok (.getfield 48, 3) := by decide +kernel
theorem dX5_scale_52 : decode cX5_scale 52 = .ok (.invokestatic 123, 3) := by decide +kernel
theorem dX5_scale_55 : decode cX5_scale 55 = .ok (.aload_n 0, 1) := by decide +kernel
theorem dX5_scale_56 : decode cX5_scale 56 = .ok (.aload_n 0, 1) := by decide +kernel
theorem dX5_scale_57 : decode cX5_scale 57 = .ok (.getfield 12, 3) := by decide +kernel
theorem dX5_scale_60 : decode cX5_scale 60 = .ok (.getfield 66, 3) := by decide +kernel
theorem dX5_scale_63 : decode cX5_scale 63 = .ok (.getfield 85, 3) := by decide +kernel
theorem dX5_scale_66 : decode cX5_scale 66 = .ok (.iload_n 3, 1) := by decide +kernel
theorem dX5_scale_67 : decode cX5_scale 67 = .ok (.aaload, 1) := by decide +kernel
theorem dX5_scale_68 : decode cX5_scale 68 = .ok (.invokevirtual 127, 3) := by decide +kernel
theorem dX5_scale_71 : decode cX5_scale 71 = .ok (.ireturn, 1) := by decide +kernel
theorem dX5_byBrackets_0 : decode cX5_byBrackets 0 = .ok (.aload_n 0, 1) := by decide +kernel
theorem dX5_byBrackets_1 : decode cX5_byBrackets 1 = .ok (.bipush 119, 2) := by decide +kernel
theorem dX5_byBrackets_3 : decode cX5_byBrackets 3 = .ok (.iload_n 1, 1) := by decide +kernel
theorem dX5_byBrackets_4 : decode cX5_byBrackets 4 = .ok (.iload_n 2, 1) := by decide +kernel
theorem dX5_byBrackets_5 : decode cX5_byBrackets 5 = .ok (.iload_n 3, 1) := by decide +kernel
theorem dX5_byBrackets_6 : decode cX5_byBrackets 6 = .ok (.invokevirtual 107, 3) := by decide +kernel
theorem dX5_byBrackets_9 : decode cX5_byBrackets 9 = .ok (.ireturn, 1) := by decide +kernel
theorem dX5_push_0 : decode cX5_push 0 = .ok (.aload_n 0, 1) := by decide +kernel
theorem dX5_push_1 : decode cX5_push 1 = .ok (.bipush 112, 2) := by decide +kernel
theorem dX5_push_3 : decode cX5_push 3 = .ok (.iload_n 1, 1) := by decide +kernel
theorem dX5_push_4 : decode cX5_push 4 = .ok (.iload_n 2, 1) := by decide +kernel
theorem dX5_push_5 : decode cX5_push 5 = .ok (.iload_n 3, 1) := by decide +kernel
theorem dX5_push_6 : decode cX5_push 6 = .ok (.invokevirtual 107, 3) := by decide +kernel
theorem dX5_push_9 : decode cX5_push 9 = .ok (.ireturn, 1) := by decide +kernel
theorem dX5_log_0 : decode cX5_log 0 = .ok (.aload_n 0, 1) := by decide +kernel
theorem dX5_log_1 : decode cX5_log 1 = .ok (.bipush 108, 2) := by decide +kernel
theorem dX5_log_3 : decode cX5_log 3 = .ok (.iload_n 1, 1) := by decide +kernel
theorem dX5_log_4 : decode cX5_log 4 = .ok (.iload_n 1, 1) := by decide +kernel
theorem dX5_log_5 : decode cX5_log 5 = .ok (.iload_n 2, 1) := by decide +kernel
theorem dX5_log_6 : decode cX5_log 6 = .ok (.invokevirtual 107, 3) := by decide +kernel
theorem dX5_log_9 : decode cX5_log 9 = .ok (.ireturn, 1) := by decide +kernel
theorem dX5_exp_0 : decode cX5_exp 0 = .ok (.aload_n 0, 1) := by decide +kernel
theorem dX5_exp_1 : decode cX5_exp 1 = .ok (.bipush 101, 2) := by decide +kernel
theorem dX5_exp_3 : decode cX5_exp 3 = .ok (.iload_n 1, 1) := by decide +kernel
theorem dX5_exp_4 : decode cX5_exp 4 = .ok (.iload_n 1, 1) := by decide +kernel
theorem dX5_exp_5 : decode cX5_exp 5 = .ok (.iload_n 2, 1) := by decide +kernel
theorem dX5_exp_6 : decode cX5_exp 6 = .ok (.invokevirtual 107, 3) := by decide +kernel
theorem dX5_exp_9 : decode cX5_exp 9 = .ok (.ireturn, 1) := by decide +kernel
theorem dX5_compose_0 : decode cX5_compose 0 = .ok (.aload_n 0, 1) := by decide +kernel
theorem dX5_compose_1 : decode cX5_compose 1 = .ok (.bipush 99, 2) := by decide +kernel
theorem dX5_compose_3 : decode cX5_compose 3 = .ok (.iload_n 1, 1) := by decide +kernel
theorem dX5_compose_4 : decode cX5_compose 4 = .ok (.iload_n 2, 1) := by decide +kernel
theorem dX5_compose_5 : decode cX5_compose 5 = .ok (.iload_n 3, 1) := by decide +kernel
theorem dX5_compose_6 : decode cX5_compose 6 = .ok (.invokevirtual 107, 3) := by decide +kernel
theorem dX5_compose_9 : decode cX5_compose 9 = .ok (.ireturn, 1) := by decide +kernel
theorem dX5_invert_0 : decode cX5_invert 0 = .ok (.aload_n 0, 1) := by decide +kernel
theorem dX5_invert_1 : decode cX5_invert 1 = .ok (.bipush 105, 2) := by decide +kernel
theorem dX5_invert_3 : decode cX5_invert 3 = .ok (.iload_n 1, 1) := by decide +kernel
theorem dX5_invert_4 : decode cX5_invert 4 = .ok (.iload_n 1, 1) := by decide +kernel
theorem dX5_invert_5 : decode cX5_invert 5 = .ok (.iload_n 2, 1) := by decide +kernel
theorem dX5_invert_6 : decode cX5_invert 6 = .ok (.invokevirtual 107, 3) := by decide +kernel
theorem dX5_invert_9 : decode cX5_invert 9 = .ok (.ireturn, 1) := by decide +kernel
theorem dX5_power_0 : decode cX5_power 0 = .ok (.iload_n 1, 1) := by decide +kernel
theorem dX5_power_1 : decode cX5_power 1 = .ok (.invokestatic 78, 3) := by decide +kernel
theorem dX5_power_4 : decode cX5_power 4 = .ok (.iload_n 3, 1) := by decide +kernel
theorem dX5_power_5 : decode cX5_power 5 = .ok (.invokestatic 78, 3) := by decide +kernel
theorem dX5_power_8 : decode cX5_power 8 = .ok (.iload_n 2, 1) := by decide +kernel
theorem dX5_power_9 : decode cX5_power 9 = .ok (.sipush (-5000), 3) := by decide +kernel
theorem dX5_power_12 : decode cX5_power 12 = .ok (.if_icmp .lt 10, 3) := by decide +kernel
theorem dX5_power_15 : decode cX5_power 15 = .ok (.iload_n 2, 1) := by decide +kernel
theorem dX5_power_16 : decode cX5_power 16 = .ok (.sipush 5000, 3) := by decide +kernel
theorem dX5_power_19 : decode cX5_power 19 = .ok (.if_icmp .le 13, 3) := by decide +kernel
theorem dX5_power_22 : decode cX5_power 22 = .ok (.new 55, 3) := by decide +kernel
theorem dX5_power_25 : decode cX5_power 25 = .ok (.dup, 1) := by decide +kernel
theorem dX5_power_26 : decode cX5_power 26 = .ok (.ldc 131, 2) := by decide +kernel
theorem dX5_power_28 : decode cX5_power 28 = .ok (.invokespecial 59, 3) := by decide +kernel
theorem dX5_power_31 : decode cX5_power 31 = .ok (.athrow, 1) := by decide +kernel
theorem dX5_power_32 : decode cX5_power 32 = .ok (.aload_n 0, 1) := by decide +kernel
theorem dX5_power_33 : decode cX5_power 33 = .ok (.iload_n 1, 1) := by decide +kernel
theorem dX5_power_34 : decode cX5_power 34 = .ok (.iload_n 2, 1) := by decide +kernel
theorem dX5_power_35 : decode cX5_power 35 = .ok (.sipush 10007, 3) := by decide +kernel
theorem dX5_power_38 : decode cX5_power 38 = .ok (.invokestatic 117, 3) := by decide +kernel
theorem dX5_power_41 : decode cX5_power 41 = .ok (.iload_n 3, 1) := by decide +kernel
theorem dX5_power_42 : decode cX5_power 42 = .ok (.invokevirtual 133, 3) := by decide +kernel
theorem dX5_power_45 : decode cX5_power 45 = .ok (.ireturn, 1) := by decide +kernel
theorem dX5_root_0 : decode cX5_root 0 = .ok (.iload_n 1, 1) := by decide +kernel
theorem dX5_root_1 : decode cX5_root 1 = .ok (.invokestatic 78, 3) := by decide +kernel
theorem dX5_root_4 : decode cX5_root 4 = .ok (.iload_n 3, 1) := by decide +kernel
theorem dX5_root_5 : decode cX5_root 5 = .ok (.invokestatic 78, 3) := by decide +kernel
theorem dX5_root_8 : decode cX5_root 8 = .ok (.iload_n 2, 1) := by decide +kernel
theorem dX5_root_9 : decode cX5_root 9 = .ok (.iconst 1, 1) := by decide +kernel
theorem dX5_root_10 : decode cX5_root 10 = .ok (.if_icmp .lt 10, 3) := by decide +kernel
theorem dX5_root_13 : decode cX5_root 13 = .ok (.iload_n 2, 1) := by decide +kernel
theorem dX5_root_14 : decode cX5_root 14 = .ok (.sipush 5000, 3) := by decide +kernel
theorem dX5_root_17 : decode cX5_root 17 = .ok (.if_icmp .le 13, 3) := by decide +kernel
theorem dX5_root_20 : decode cX5_root 20 = .ok (.new 55, 3) := by decide +kernel
theorem dX5_root_23 : decode cX5_root 23 = .ok (.dup, 1) := by decide +kernel
theorem dX5_root_24 : decode cX5_root 24 = .ok (.ldc 137, 2) := by decide +kernel
theorem dX5_root_26 : decode cX5_root 26 = .ok (.invokespecial 59, 3) := by decide +kernel
theorem dX5_root_29 : decode cX5_root 29 = .ok (.athrow, 1) := by decide +kernel
theorem dX5_root_30 : decode cX5_root 30 = .ok (.aload_n 0, 1) := by decide +kernel
theorem dX5_root_31 : decode cX5_root 31 = .ok (.iload_n 1, 1) := by decide +kernel
theorem dX5_root_32 : decode cX5_root 32 = .ok (.iload_n 2, 1) := by decide +kernel
theorem dX5_root_33 : decode cX5_root 33 = .ok (.invokestatic 139, 3) := by decide +kernel
theorem dX5_root_36 : decode cX5_root 36 = .ok (.iload_n 3, 1) := by decide +kernel
theorem dX5_root_37 : decode cX5_root 37 = .ok (.invokevirtual 133, 3) := by decide +kernel
theorem dX5_root_40 : decode cX5_root 40 = .ok (.ireturn, 1) := by decide +kernel
theorem dX5_append_0 : decode cX5_append 0 = .ok (.iload_n 1, 1) := by decide +kernel
theorem dX5_append_1 : decode cX5_append 1 = .ok (.bipush 33, 2) := by decide +kernel
theorem dX5_append_3 : decode cX5_append 3 = .ok (.if_icmp .lt 9, 3) := by decide +kernel
theorem dX5_append_6 : decode cX5_append 6 = .ok (.iload_n 1, 1) := by decide +kernel
theorem dX5_append_7 : decode cX5_append 7 = .ok (.bipush 126, 2) := by decide +kernel
theorem dX5_append_9 : decode cX5_append 9 = .ok (.if_icmp .le 13, 3) := by decide +kernel
theorem dX5_append_12 : decode cX5_append 12 = .ok (.new 55, 3) := by decide +kernel
theorem dX5_append_15 : decode cX5_append 15 = .ok (.dup, 1) := by decide +kernel
theorem dX5_append_16 : decode cX5_append 16 = .ok (.ldc 143, 2) := by decide +kernel
theorem dX5_append_18 : decode cX5_append 18 = .ok (.invokespecial 59, 3) := by decide +kernel
theorem dX5_append_21 : decode cX5_append 21 = .ok (.athrow, 1) := by decide +kernel
theorem dX5_append_22 : decode cX5_append 22 = .ok (.aload_n 0, 1) := by decide +kernel
theorem dX5_append_23 : decode cX5_append 23 = .ok (.getfield 37, 3) := by decide +kernel
theorem dX5_append_26 : decode cX5_append 26 = .ok (.invokevirtual 145, 3) := by decide +kernel
theorem dX5_append_29 : decode cX5_append 29 = .ok (.ifCond .eq 13, 3) := by decide +kernel
theorem dX5_append_32 : decode cX5_append 32 = .ok (.new 102, 3) := by decide +kernel
theorem dX5_append_35 : decode cX5_append 35 = .ok (.dup, 1) := by decide +kernel
theorem dX5_append_36 : decode cX5_append 36 = .ok (.ldc 149, 2) := by decide +kernel
theorem dX5_append_38 : decode cX5_append 38 = .ok (.invokespecial 106, 3) := by decide +kernel
theorem dX5_append_41 : decode cX5_append 41 = .ok (.athrow, 1) := by decide +kernel
theorem dX5_append_42 : decode cX5_append 42 = .ok (.aload_n 0, 1) := by decide +kernel
theorem dX5_append_43 : decode cX5_append 43 = .ok (.getfield 37, 3) := by decide +kernel
theorem dX5_append_46 : decode cX5_append 46 = .ok (.iload_n 1, 1) := by decide +kernel
theorem dX5_append_47 : decode cX5_append 47 = .ok (.invokevirtual 151, 3) := by decide +kernel
theorem dX5_append_50 : decode cX5_append 50 = .ok (.aload_n 0, 1) := by decide +kernel
theorem dX5_append_51 : decode cX5_append 51 = .ok (.getfield 37, 3) := by decide +kernel
theorem dX5_append_54 : decode cX5_append 54 = .ok (.getfield 154, 3) := by decide +kernel
theorem dX5_append_57 : decode cX5_append 57 = .ok (.ireturn, 1) := by decide +kernel
theorem dX5_clearBuffer_0 : decode cX5_clearBuffer 0 = .ok (.aload_n 0, 1) := by decide +kernel
theorem dX5_clearBuffer_1 : decode cX5_clearBuffer 1 = .ok (.getfield 37, 3) := by decide +kernel
theorem dX5_clearBuffer_4 : decode cX5_clearBuffer 4 = .ok (.getfield 154, 3) := by decide +kernel
theorem dX5_clearBuffer_7 : decode cX5_clearBuffer 7 = .ok (.istore_n 1, 1) := by decide +kernel
theorem dX5_clearBuffer_8 : decode cX5_clearBuffer 8 = .ok (.aload_n 0, 1) := by decide +kernel
theorem dX5_clearBuffer_9 : decode cX5_clearBuffer 9 = .ok (.getfield 37, 3) := by decide +kernel
theorem dX5_clearBuffer_12 : decode cX5_clearBuffer 12 = .ok (.invokevirtual 157, 3) := by decide +kernel
theorem dX5_clearBuffer_15 : decode cX5_clearBuffer 15 = .ok (.iload_n 1, 1) := by decide +kernel
theorem dX5_clearBuffer_16 : decode cX5_clearBuffer 16 = .ok (.ireturn, 1) := by decide +kernel
theorem dX5_firstError_0 : decode cX5_firstError 0 = .ok (.aload_n 0, 1) := by decide +kernel
theorem dX5_firstError_1 : decode cX5_firstError 1 = .ok (.getfield 37, 3) := by decide +kernel
theorem dX5_firstError_4 : decode cX5_firstError 4 = .ok (.invokevirtual 160, 3) := by decide +kernel
theorem dX5_firstError_7 : decode cX5_firstError 7 = .ok (.ireturn, 1) := by decide +kernel
theorem dX5_run_0 : decode cX5_run 0 = .ok (.aload_n 0, 1) := by decide +kernel
theorem dX5_run_1 : decode cX5_run 1 = .ok (.getfield 37, 3) := by decide +kernel
theorem dX5_run_4 : decode cX5_run 4 = .ok (.invokevirtual 164, 3) := by decide +kernel
theorem dX5_run_7 : decode cX5_run 7 = .ok (.ifCond .ne 13, 3) := by decide +kernel
theorem dX5_run_10 : decode cX5_run 10 = .ok (.new 55, 3) := by decide +kernel
theorem dX5_run_13 : decode cX5_run 13 = .ok (.dup, 1) := by decide +kernel
theorem dX5_run_14 : decode cX5_run 14 = .ok (.ldc 167, 2) := by decide +kernel
theorem dX5_run_16 : decode cX5_run 16 = .ok (.invokespecial 59, 3) := by decide +kernel
theorem dX5_run_19 : decode cX5_run 19 = .ok (.athrow, 1) := by decide +kernel
theorem dX5_run_20 : decode cX5_run 20 = .ok (.aload_n 0, 1) := by decide +kernel
theorem dX5_run_21 : decode cX5_run 21 = .ok (.getfield 19, 3) := by decide +kernel
theorem dX5_run_24 : decode cX5_run 24 = .ok (.aload_n 0, 1) := by decide +kernel
theorem dX5_run_25 : decode cX5_run 25 = .ok (.getfield 12, 3) := by decide +kernel
theorem dX5_run_28 : decode cX5_run 28 = .ok (.invokevirtual 62, 3) := by decide +kernel
theorem dX5_run_31 : decode cX5_run 31 = .ok (.aload_n 0, 1) := by decide +kernel
theorem dX5_run_32 : decode cX5_run 32 = .ok (.invokevirtual 169, 3) := by decide +kernel
theorem dX5_run_35 : decode cX5_run 35 = .ok (.istore_n 1, 1) := by decide +kernel
theorem dX5_run_36 : decode cX5_run 36 = .ok (.aload_n 0, 1) := by decide +kernel
theorem dX5_run_37 : decode cX5_run 37 = .ok (.getfield 37, 3) := by decide +kernel
theorem dX5_run_40 : decode cX5_run 40 = .ok (.invokevirtual 157, 3) := by decide +kernel
theorem dX5_run_43 : decode cX5_run 43 = .ok (.iload_n 1, 1) := by decide +kernel
theorem dX5_run_44 : decode cX5_run 44 = .ok (.ireturn, 1) := by decide +kernel
theorem dX5_take_0 : decode cX5_take 0 = .ok (.iload_n 1, 1) := by decide +kernel
theorem dX5_take_1 : decode cX5_take 1 = .ok (.invokestatic 172, 3) := by decide +kernel
theorem dX5_take_4 : decode cX5_take 4 = .ok (.aload_n 0, 1) := by decide +kernel
theorem dX5_take_5 : decode cX5_take 5 = .ok (.getfield 25, 3) := by decide +kernel
theorem dX5_take_8 : decode cX5_take 8 = .ok (.iload_n 1, 1) := by decide +kernel
theorem dX5_take_9 : decode cX5_take 9 = .ok (.aaload, 1) := by decide +kernel
theorem dX5_take_10 : decode cX5_take 10 = .ok (.aload_n 0, 1) := by decide +kernel
theorem dX5_take_11 : decode cX5_take 11 = .ok (.getfield 12, 3) := by decide +kernel
theorem dX5_take_14 : decode cX5_take 14 = .ok (.getfield 66, 3) := by decide +kernel
theorem dX5_take_17 : decode cX5_take 17 = .ok (.invokevirtual 175, 3) := by decide +kernel
theorem dX5_take_20 : decode cX5_take 20 = .ok (.aload_n 0, 1) := by decide +kernel
theorem dX5_take_21 : decode cX5_take 21 = .ok (.getfield 30, 3) := by decide +kernel
theorem dX5_take_24 : decode cX5_take 24 = .ok (.iload_n 1, 1) := by decide +kernel
theorem dX5_take_25 : decode cX5_take 25 = .ok (.iconst 1, 1) := by decide +kernel
theorem dX5_take_26 : decode cX5_take 26 = .ok (.bastore, 1) := by decide +kernel
theorem dX5_take_27 : decode cX5_take 27 = .ok (.aload_n 0, 1) := by decide +kernel
theorem dX5_take_28 : decode cX5_take 28 = .ok (.getfield 12, 3) := by decide +kernel
theorem dX5_take_31 : decode cX5_take 31 = .ok (.getfield 66, 3) := by decide +kernel
theorem dX5_take_34 : decode cX5_take 34 = .ok (.invokevirtual 179, 3) := by decide +kernel
theorem dX5_take_37 : decode cX5_take 37 = .ok (.ireturn, 1) := by decide +kernel
theorem dX5_restore_0 : decode cX5_restore 0 = .ok (.iload_n 1, 1) := by decide +kernel
theorem dX5_restore_1 : decode cX5_restore 1 = .ok (.invokestatic 172, 3) := by decide +kernel
theorem dX5_restore_4 : decode cX5_restore 4 = .ok (.aload_n 0, 1) := by decide +kernel
theorem dX5_restore_5 : decode cX5_restore 5 = .ok (.getfield 30, 3) := by decide +kernel
theorem dX5_restore_8 : decode cX5_restore 8 = .ok (.iload_n 1, 1) := by decide +kernel
theorem dX5_restore_9 : decode cX5_restore 9 = .ok (.baload, 1) := by decide +kernel
theorem dX5_restore_10 : decode cX5_restore 10 = .ok (.ifCond .ne 13, 3) := by decide +kernel
theorem dX5_restore_13 : decode cX5_restore 13 = .ok (.new 102, 3) := by decide +kernel
theorem dX5_restore_16 : decode cX5_restore 16 = .ok (.dup, 1) := by decide +kernel
theorem dX5_restore_17 : decode cX5_restore 17 = .ok (.ldc 182, 2) := by decide +kernel
theorem dX5_restore_19 : decode cX5_restore 19 = .ok (.invokespecial 106, 3) := by decide +kernel
theorem dX5_restore_22 : decode cX5_restore 22 = .ok (.athrow, 1) := by decide +kernel
theorem dX5_restore_23 : decode cX5_restore 23 = .ok (.aload_n 0, 1) := by decide +kernel
theorem dX5_restore_24 : decode cX5_restore 24 = .ok (.getfield 19, 3) := by decide +kernel
theorem dX5_restore_27 : decode cX5_restore 27 = .ok (.aload_n 0, 1) := by decide +kernel
theorem dX5_restore_28 : decode cX5_restore 28 = .ok (.getfield 12, 3) := by decide +kernel
theorem dX5_restore_31 : decode cX5_restore 31 = .ok (.invokevirtual 62, 3) := by decide +kernel
theorem dX5_restore_34 : decode cX5_restore 34 = .ok (.aload_n 0, 1) := by decide +kernel
theorem dX5_restore_35 : decode cX5_restore 35 = .ok (.getfield 12, 3) := by decide +kernel
theorem dX5_restore_38 : decode cX5_restore 38 = .ok (.getfield 66, 3) := by decide +kernel
theorem dX5_restore_41 : decode cX5_restore 41 = .ok (.aload_n 0, 1) := by decide +kernel
theorem dX5_restore_42 : decode cX5_restore 42 = .ok (.getfield 25, 3) := by decide +kernel
theorem dX5_restore_45 : decode cX5_restore 45 = .ok (.iload_n 1, 1) := by decide +kernel
theorem dX5_restore_46 : decode cX5_restore 46 = .ok (.aaload, 1) := by decide +kernel
theorem dX5_restore_47 : decode cX5_restore 47 = .ok (.invokevirtual 175, 3) := by decide +kernel
theorem dX5_restore_50 : decode cX5_restore 50 = .ok (.aload_n 0, 1) := by decide +kernel
theorem dX5_restore_51 : decode cX5_restore 51 = .ok (.getfield 12, 3) := by decide +kernel
theorem dX5_restore_54 : decode cX5_restore 54 = .ok (.getfield 66, 3) := by decide +kernel
theorem dX5_restore_57 : decode cX5_restore 57 = .ok (.invokevirtual 179, 3) := by decide +kernel
theorem dX5_restore_60 : decode cX5_restore 60 = .ok (.ireturn, 1) := by decide +kernel
theorem dX5_undo_0 : decode cX5_undo 0 = .ok (.aload_n 0, 1) := by decide +kernel
theorem dX5_undo_1 : decode cX5_undo 1 = .ok (.getfield 19, 3) := by decide +kernel
theorem dX5_undo_4 : decode cX5_undo 4 = .ok (.getfield 184, 3) := by decide +kernel
theorem dX5_undo_7 : decode cX5_undo 7 = .ok (.ifCond .ne 13, 3) := by decide +kernel
theorem dX5_undo_10 : decode cX5_undo 10 = .ok (.new 102, 3) := by decide +kernel
theorem dX5_undo_13 : decode cX5_undo 13 = .ok (.dup, 1) := by decide +kernel
theorem dX5_undo_14 : decode cX5_undo 14 = .ok (.ldc 187, 2) := by decide +kernel
theorem dX5_undo_16 : decode cX5_undo 16 = .ok (.invokespecial 106, 3) := by decide +kernel
theorem dX5_undo_19 : decode cX5_undo 19 = .ok (.athrow, 1) := by decide +kernel
theorem dX5_undo_20 : decode cX5_undo 20 = .ok (.aload_n 0, 1) := by decide +kernel
theorem dX5_undo_21 : decode cX5_undo 21 = .ok (.getfield 19, 3) := by decide +kernel
theorem dX5_undo_24 : decode cX5_undo 24 = .ok (.aload_n 0, 1) := by decide +kernel
theorem dX5_undo_25 : decode cX5_undo 25 = .ok (.getfield 12, 3) := by decide +kernel
theorem dX5_undo_28 : decode cX5_undo 28 = .ok (.invokevirtual 189, 3) := by decide +kernel
theorem dX5_undo_31 : decode cX5_undo 31 = .ok (.aload_n 0, 1) := by decide +kernel
theorem dX5_undo_32 : decode cX5_undo 32 = .ok (.getfield 19, 3) := by decide +kernel
theorem dX5_undo_35 : decode cX5_undo 35 = .ok (.getfield 184, 3) := by decide +kernel
theorem dX5_undo_38 : decode cX5_undo 38 = .ok (.ireturn, 1) := by decide +kernel
theorem dX5_field_0 : decode cX5_field 0 = .ok (.iload_n 1, 1) := by decide +kernel
theorem dX5_field_1 : decode cX5_field 1 = .ok (.invokestatic 78, 3) := by decide +kernel
theorem dX5_field_4 : decode cX5_field 4 = .ok (.iload_n 2, 1) := by decide +kernel
theorem dX5_field_5 : decode cX5_field 5 = .ok (.iconst 0, 1) := by decide +kernel
theorem dX5_field_6 : decode cX5_field 6 = .ok (.bipush 6, 2) := by decide +kernel
theorem dX5_field_8 : decode cX5_field 8 = .ok (.invokestatic 81, 3) := by decide +kernel
theorem dX5_field_11 : decode cX5_field 11 = .ok (.aload_n 0, 1) := by decide +kernel
theorem dX5_field_12 : decode cX5_field 12 = .ok (.getfield 12, 3) := by decide +kernel
theorem dX5_field_15 : decode cX5_field 15 = .ok (.getfield 66, 3) := by decide +kernel
theorem dX5_field_18 : decode cX5_field 18 = .ok (.getfield 85, 3) := by decide +kernel
theorem dX5_field_21 : decode cX5_field 21 = .ok (.iload_n 1, 1) := by decide +kernel
theorem dX5_field_22 : decode cX5_field 22 = .ok (.aaload, 1) := by decide +kernel
theorem dX5_field_23 : decode cX5_field 23 = .ok (.iload_n 2, 1) := by decide +kernel
theorem dX5_field_24 : decode cX5_field 24 = .ok (.iaload, 1) := by decide +kernel
theorem dX5_field_25 : decode cX5_field 25 = .ok (.ireturn, 1) := by decide +kernel
theorem dX5_flow_0 : decode cX5_flow 0 = .ok (.iload_n 1, 1) := by decide +kernel
theorem dX5_flow_1 : decode cX5_flow 1 = .ok (.invokestatic 78, 3) := by decide +kernel
theorem dX5_flow_4 : decode cX5_flow 4 = .ok (.iload_n 2, 1) := by decide +kernel
theorem dX5_flow_5 : decode cX5_flow 5 = .ok (.iconst 0, 1) := by decide +kernel
theorem dX5_flow_6 : decode cX5_flow 6 = .ok (.bipush 6, 2) := by decide +kernel
theorem dX5_flow_8 : decode cX5_flow 8 = .ok (.invokestatic 81, 3) := by decide +kernel
theorem dX5_flow_11 : decode cX5_flow 11 = .ok (.aload_n 0, 1) := by decide +kernel
theorem dX5_flow_12 : decode cX5_flow 12 = .ok (.getfield 12, 3) := by decide +kernel
theorem dX5_flow_15 : decode cX5_flow 15 = .ok (.getfield 66, 3) := by decide +kernel
theorem dX5_flow_18 : decode cX5_flow 18 = .ok (.getfield 93, 3) := by decide +kernel
theorem dX5_flow_21 : decode cX5_flow 21 = .ok (.iload_n 1, 1) := by decide +kernel
theorem dX5_flow_22 : decode cX5_flow 22 = .ok (.aaload, 1) := by decide +kernel
theorem dX5_flow_23 : decode cX5_flow 23 = .ok (.iload_n 2, 1) := by decide +kernel
theorem dX5_flow_24 : decode cX5_flow 24 = .ok (.iaload, 1) := by decide +kernel
theorem dX5_flow_25 : decode cX5_flow 25 = .ok (.ireturn, 1) := by decide +kernel
theorem dX5_value_0 : decode cX5_value 0 = .ok (.iload_n 2, 1) := by decide +kernel
theorem dX5_value_1 : decode cX5_value 1 = .ok (.invokestatic 78, 3) := by decide +kernel
theorem dX5_value_4 : decode cX5_value 4 = .ok (.iload_n 1, 1) := by decide +kernel
theorem dX5_value_5 : decode cX5_value 5 = .ok (.ifCond .eq 18, 3) := by decide +kernel
theorem dX5_value_8 : decode cX5_value 8 = .ok (.iload_n 1, 1) := by decide +kernel
theorem dX5_value_9 : decode cX5_value 9 = .ok (.iconst 1, 1) := by decide +kernel
theorem dX5_value_10 : decode cX5_value 10 = .ok (.if_icmp .eq 13, 3) := by decide +kernel
theorem dX5_value_13 : decode cX5_value 13 = .ok (.new 55, 3) := by decide +kernel
theorem dX5_value_16 : decode cX5_value 16 = .ok (.dup, 1) := by decide +kernel
theorem dX5_value_17 : decode cX5_value 17 = .ok (.ldc 192, 2) := by decide +kernel
theorem dX5_value_19 : decode cX5_value 19 = .ok (.invokespecial 59, 3) := by decide +kernel
theorem dX5_value_22 : decode cX5_value 22 = .ok (.athrow, 1) := by decide +kernel
theorem dX5_value_23 : decode cX5_value 23 = .ok (.iload_n 1, 1) := by decide +kernel
theorem dX5_value_24 : decode cX5_value 24 = .ok (.ifCond .ne 18, 3) := by decide +kernel
theorem dX5_value_27 : decode cX5_value 27 = .ok (.aload_n 0, 1) := by decide +kernel
theorem dX5_value_28 : decode cX5_value 28 = .ok (.getfield 12, 3) := by decide +kernel
theorem dX5_value_31 : decode cX5_value 31 = .ok (.getfield 66, 3) := by decide +kernel
theorem dX5_value_34 : decode cX5_value 34 = .ok (.getfield 85, 3) := by decide +kernel
theorem dX5_value_37 : decode cX5_value 37 = .ok (.iload_n 2, 1) := by decide +kernel
theorem dX5_value_38 : decode cX5_value 38 = .ok (.aaload, 1) := by decide +kernel
theorem dX5_value_39 : decode cX5_value 39 = .ok (.goto 15, 3) := by decide +kernel
theorem dX5_value_42 : decode cX5_value 42 = .ok (.aload_n 0, 1) := by decide +kernel
theorem dX5_value_43 : decode cX5_value 43 = .ok (.getfield 12, 3) := by decide +kernel
theorem dX5_value_46 : decode cX5_value 46 = .ok (.getfield 66, 3) := by decide +kernel
theorem dX5_value_49 : decode cX5_value 49 = .ok (.getfield 93, 3) := by decide +kernel
theorem dX5_value_52 : decode cX5_value 52 = .ok (.iload_n 2, 1) := by decide +kernel
theorem dX5_value_53 : decode cX5_value 53 = .ok (.aaload, 1) := by decide +kernel
theorem dX5_value_54 : decode cX5_value 54 = .ok (.astore 4, 2) := by decide +kernel
theorem dX5_value_56 : decode cX5_value 56 = .ok (.aload 4, 2) := by decide +kernel
theorem dX5_value_58 : decode cX5_value 58 = .ok (.iload_n 3, 1) := by decide +kernel
theorem dX5_value_59 : decode cX5_value 59 = .ok (.sipush 10007, 3) := by decide +kernel
theorem dX5_value_62 : decode cX5_value 62 = .ok (.invokestatic 117, 3) := by decide +kernel
theorem dX5_value_65 : decode cX5_value 65 = .ok (.invokestatic 194, 3) := by decide +kernel
theorem dX5_value_68 : decode cX5_value 68 = .ok (.ireturn, 1) := by decide +kernel
theorem dX5_clash_0 : decode cX5_clash 0 = .ok (.iload_n 1, 1) := by decide +kernel
theorem dX5_clash_1 : decode cX5_clash 1 = .ok (.invokestatic 78, 3) := by decide +kernel
theorem dX5_clash_4 : decode cX5_clash 4 = .ok (.iload_n 2, 1) := by decide +kernel
theorem dX5_clash_5 : decode cX5_clash 5 = .ok (.invokestatic 78, 3) := by decide +kernel
theorem dX5_clash_8 : decode cX5_clash 8 = .ok (.aload_n 0, 1) := by decide +kernel
theorem dX5_clash_9 : decode cX5_clash 9 = .ok (.getfield 44, 3) := by decide +kernel
theorem dX5_clash_12 : decode cX5_clash 12 = .ok (.aload_n 0, 1) := by decide +kernel
theorem dX5_clash_13 : decode cX5_clash 13 = .ok (.getfield 12, 3) := by decide +kernel
theorem dX5_clash_16 : decode cX5_clash 16 = .ok (.getfield 66, 3) := by decide +kernel
theorem dX5_clash_19 : decode cX5_clash 19 = .ok (.getfield 85, 3) := by decide +kernel
theorem dX5_clash_22 : decode cX5_clash 22 = .ok (.iload_n 1, 1) := by decide +kernel
theorem dX5_clash_23 : decode cX5_clash 23 = .ok (.aaload, 1) := by decide +kernel
theorem dX5_clash_24 : decode cX5_clash 24 = .ok (.aload_n 0, 1) := by decide +kernel
theorem dX5_clash_25 : decode cX5_clash 25 = .ok (.getfield 12, 3) := by decide +kernel
theorem dX5_clash_28 : decode cX5_clash 28 = .ok (.getfield 66, 3) := by decide +kernel
theorem dX5_clash_31 : decode cX5_clash 31 = .ok (.getfield 85, 3) := by decide +kernel
theorem dX5_clash_34 : decode cX5_clash 34 = .ok (.iload_n 2, 1) := by decide +kernel
theorem dX5_clash_35 : decode cX5_clash 35 = .ok (.aaload, 1) := by decide +kernel
theorem dX5_clash_36 : decode cX5_clash 36 = .ok (.aload_n 0, 1) := by decide +kernel
theorem dX5_clash_37 : decode cX5_clash 37 = .ok (.getfield 12, 3) := by decide +kernel
theorem dX5_clash_40 : decode cX5_clash 40 = .ok (.getfield 66, 3) := by decide +kernel
theorem dX5_clash_43 : decode cX5_clash 43 = .ok (.getfield 70, 3) := by decide +kernel
theorem dX5_clash_46 : decode cX5_clash 46 = .ok (.aload_n 0, 1) := by decide +kernel
theorem dX5_clash_47 : decode cX5_clash 47 = .ok (.getfield 48, 3) := by decide +kernel
theorem dX5_clash_50 : decode cX5_clash 50 = .ok (.invokevirtual 198, 3) := by decide +kernel
theorem dX5_clash_53 : decode cX5_clash 53 = .ok (.aload_n 0, 1) := by decide +kernel
theorem dX5_clash_54 : decode cX5_clash 54 = .ok (.getfield 48, 3) := by decide +kernel
theorem dX5_clash_57 : decode cX5_clash 57 = .ok (.invokestatic 202, 3) := by decide +kernel
theorem dX5_clash_60 : decode cX5_clash 60 = .ok (.ireturn, 1) := by decide +kernel
theorem dX5_apart_0 : decode cX5_apart 0 = .ok (.iload_n 1, 1) := by decide +kernel
theorem dX5_apart_1 : decode cX5_apart 1 = .ok (.invokestatic 78, 3) := by decide +kernel
theorem dX5_apart_4 : decode cX5_apart 4 = .ok (.iload_n 2, 1) := by decide +kernel
theorem dX5_apart_5 : decode cX5_apart 5 = .ok (.invokestatic 78, 3) := by decide +kernel
theorem dX5_apart_8 : decode cX5_apart 8 = .ok (.aload_n 0, 1) := by decide +kernel
theorem dX5_apart_9 : decode cX5_apart 9 = .ok (.getfield 44, 3) := by decide +kernel
theorem dX5_apart_12 : decode cX5_apart 12 = .ok (.aload_n 0, 1) := by decide +kernel
theorem dX5_apart_13 : decode cX5_apart 13 = .ok (.getfield 12, 3) := by decide +kernel
theorem dX5_apart_16 : decode cX5_apart 16 = .ok (.getfield 66, 3) := by decide +kernel
theorem dX5_apart_19 : decode cX5_apart 19 = .ok (.getfield 93, 3) := by decide +kernel
theorem dX5_apart_22 : decode cX5_apart 22 = .ok (.iload_n 1, 1) := by decide +kernel
theorem dX5_apart_23 : decode cX5_apart 23 = .ok (.aaload, 1) := by decide +kernel
theorem dX5_apart_24 : decode cX5_apart 24 = .ok (.aload_n 0, 1) := by decide +kernel
theorem dX5_apart_25 : decode cX5_apart 25 = .ok (.getfield 12, 3) := by decide +kernel
theorem dX5_apart_28 : decode cX5_apart 28 = .ok (.getfield 66, 3) := by decide +kernel
theorem dX5_apart_31 : decode cX5_apart 31 = .ok (.getfield 93, 3) := by decide +kernel
theorem dX5_apart_34 : decode cX5_apart 34 = .ok (.iload_n 2, 1) := by decide +kernel
theorem dX5_apart_35 : decode cX5_apart 35 = .ok (.aaload, 1) := by decide +kernel
theorem dX5_apart_36 : decode cX5_apart 36 = .ok (.aload_n 0, 1) := by decide +kernel
theorem dX5_apart_37 : decode cX5_apart 37 = .ok (.getfield 12, 3) := by decide +kernel
theorem dX5_apart_40 : decode cX5_apart 40 = .ok (.getfield 66, 3) := by decide +kernel
theorem dX5_apart_43 : decode cX5_apart 43 = .ok (.getfield 70, 3) := by decide +kernel
theorem dX5_apart_46 : decode cX5_apart 46 = .ok (.aload_n 0, 1) := by decide +kernel
theorem dX5_apart_47 : decode cX5_apart 47 = .ok (.getfield 48, 3) := by decide +kernel
theorem dX5_apart_50 : decode cX5_apart 50 = .ok (.invokevirtual 205, 3) := by decide +kernel
theorem dX5_apart_53 : decode cX5_apart 53 = .ok (.aload_n 0, 1) := by decide +kernel
theorem dX5_apart_54 : decode cX5_apart 54 = .ok (.getfield 44, 3) := by decide +kernel
theorem dX5_apart_57 : decode cX5_apart 57 = .ok (.aload_n 0, 1) := by decide +kernel
theorem dX5_apart_58 : decode cX5_apart 58 = .ok (.getfield 12, 3) := by decide +kernel
theorem dX5_apart_61 : decode cX5_apart 61 = .ok (.getfield 66, 3) := by decide +kernel
theorem dX5_apart_64 : decode cX5_apart 64 = .ok (.getfield 93, 3) := by decide +kernel
theorem dX5_apart_67 : decode cX5_apart 67 = .ok (.iload_n 2, 1) := by decide +kernel
theorem dX5_apart_68 : decode cX5_apart 68 = .ok (.aaload, 1) := by decide +kernel
theorem dX5_apart_69 : decode cX5_apart 69 = .ok (.aload_n 0, 1) := by decide +kernel
theorem dX5_apart_70 : decode cX5_apart 70 = .ok (.getfield 12, 3) := by decide +kernel
theorem dX5_apart_73 : decode cX5_apart 73 = .ok (.getfield 66, 3) := by decide +kernel
theorem dX5_apart_76 : decode cX5_apart 76 = .ok (.getfield 93, 3) := by decide +kernel
theorem dX5_apart_79 : decode cX5_apart 79 = .ok (.iload_n 1, 1) := by decide +kernel
theorem dX5_apart_80 : decode cX5_apart 80 = .ok (.aaload, 1) := by decide +kernel
theorem dX5_apart_81 : decode cX5_apart 81 = .ok (.aload_n 0, 1) := by decide +kernel
theorem dX5_apart_82 : decode cX5_apart 82 = .ok (.getfield 12, 3) := by decide +kernel
theorem dX5_apart_85 : decode cX5_apart 85 = .ok (.getfield 66, 3) := by decide +kernel
theorem dX5_apart_88 : decode cX5_apart 88 = .ok (.getfield 70, 3) := by decide +kernel
theorem dX5_apart_91 : decode cX5_apart 91 = .ok (.aload_n 0, 1) := by decide +kernel
theorem dX5_apart_92 : decode cX5_apart 92 = .ok (.getfield 52, 3) := by decide +kernel
theorem dX5_apart_95 : decode cX5_apart 95 = .ok (.invokevirtual 205, 3) := by decide +kernel
theorem dX5_apart_98 : decode cX5_apart 98 = .ok (.aload_n 0, 1) := by decide +kernel
theorem dX5_apart_99 : decode cX5_apart 99 = .ok (.getfield 48, 3) := by decide +kernel
theorem dX5_apart_102 : decode cX5_apart 102 = .ok (.aload_n 0, 1) := by decide +kernel
theorem dX5_apart_103 : decode cX5_apart 103 = .ok (.getfield 52, 3) := by decide +kernel
theorem dX5_apart_106 : decode cX5_apart 106 = .ok (.invokestatic 208, 3) := by decide +kernel
theorem dX5_apart_109 : decode cX5_apart 109 = .ok (.ireturn, 1) := by decide +kernel
theorem dX5_differs_0 : decode cX5_differs 0 = .ok (.iload_n 1, 1) := by decide +kernel
theorem dX5_differs_1 : decode cX5_differs 1 = .ok (.invokestatic 78, 3) := by decide +kernel
theorem dX5_differs_4 : decode cX5_differs 4 = .ok (.iload_n 2, 1) := by decide +kernel
theorem dX5_differs_5 : decode cX5_differs 5 = .ok (.invokestatic 78, 3) := by decide +kernel
theorem dX5_differs_8 : decode cX5_differs 8 = .ok (.iload_n 3, 1) := by decide +kernel
theorem dX5_differs_9 : decode cX5_differs 9 = .ok (.iconst 2, 1) := by decide +kernel
theorem dX5_differs_10 : decode cX5_differs 10 = .ok (.if_icmp .lt 8, 3) := by decide +kernel
theorem dX5_differs_13 : decode cX5_differs 13 = .ok (.iload_n 3, 1) := by decide +kernel
theorem dX5_differs_14 : decode cX5_differs 14 = .ok (.iconst 5, 1) := by decide +kernel
theorem dX5_differs_15 : decode cX5_differs 15 = .ok (.if_icmp .le 13, 3) := by decide +kernel
theorem dX5_differs_18 : decode cX5_differs 18 = .ok (.new 55, 3) := by decide +kernel
theorem dX5_differs_21 : decode cX5_differs 21 = .ok (.dup, 1) := by decide +kernel
theorem dX5_differs_22 : decode cX5_differs 22 = .ok (.ldc 212, 2) := by decide +kernel
theorem dX5_differs_24 : decode cX5_differs 24 = .ok (.invokespecial 59, 3) := by decide +kernel
theorem dX5_differs_27 : decode cX5_differs 27 = .ok (.athrow, 1) := by decide +kernel
theorem dX5_differs_28 : decode cX5_differs 28 = .ok (.aload_n 0, 1) := by decide +kernel
theorem dX5_differs_29 : decode cX5_differs 29 = .ok (.getfield 44, 3) := by decide +kernel
theorem dX5_differs_32 : decode cX5_differs 32 = .ok (.aload_n 0, 1) := by decide +kernel
theorem dX5_differs_33 : decode cX5_differs 33 = .ok (.getfield 12, 3) := by decide +kernel
theorem dX5_differs_36 : decode cX5_differs 36 = .ok (.getfield 66, 3) := by decide +kernel
theorem dX5_differs_39 : decode cX5_differs 39 = .ok (.getfield 85, 3) := by decide +kernel
theorem dX5_differs_42 : decode cX5_differs 42 = .ok (.iload_n 1, 1) := by decide +kernel
theorem dX5_differs_43 : decode cX5_differs 43 = .ok (.aaload, 1) := by decide +kernel
theorem dX5_differs_44 : decode cX5_differs 44 = .ok (.aload_n 0, 1) := by decide +kernel
theorem dX5_differs_45 : decode cX5_differs 45 = .ok (.getfield 12, 3) := by decide +kernel
theorem dX5_differs_48 : decode cX5_differs 48 = .ok (.getfield 66, 3) := by decide +kernel
theorem dX5_differs_51 : decode cX5_differs 51 = .ok (.getfield 85, 3) := by decide +kernel
theorem dX5_differs_54 : decode cX5_differs 54 = .ok (.iload_n 2, 1) := by decide +kernel
theorem dX5_differs_55 : decode cX5_differs 55 = .ok (.aaload, 1) := by decide +kernel
theorem dX5_differs_56 : decode cX5_differs 56 = .ok (.aload_n 0, 1) := by decide +kernel
theorem dX5_differs_57 : decode cX5_differs 57 = .ok (.getfield 12, 3) := by decide +kernel
theorem dX5_differs_60 : decode cX5_differs 60 = .ok (.getfield 66, 3) := by decide +kernel
theorem dX5_differs_63 : decode cX5_differs 63 = .ok (.getfield 70, 3) := by decide +kernel
theorem dX5_differs_66 : decode cX5_differs 66 = .ok (.aload_n 0, 1) := by decide +kernel
theorem dX5_differs_67 : decode cX5_differs 67 = .ok (.getfield 52, 3) := by decide +kernel
theorem dX5_differs_70 : decode cX5_differs 70 = .ok (.invokevirtual 214, 3) := by decide +kernel
theorem dX5_differs_73 : decode cX5_differs 73 = .ok (.aload_n 0, 1) := by decide +kernel
theorem dX5_differs_74 : decode cX5_differs 74 = .ok (.iload_n 1, 1) := by decide +kernel
theorem dX5_differs_75 : decode cX5_differs 75 = .ok (.iload_n 2, 1) := by decide +kernel
theorem dX5_differs_76 : decode cX5_differs 76 = .ok (.iload_n 3, 1) := by decide +kernel
theorem dX5_differs_77 : decode cX5_differs 77 = .ok (.invokevirtual 217, 3) := by decide +kernel
theorem dX5_differs_80 : decode cX5_differs 80 = .ok (.ireturn, 1) := by decide +kernel
