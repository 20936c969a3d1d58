theorem dX5_lacks_0 : decode cX5_lacks 0 = .ok (.iload_n 1, 1) := by decide +kernel
theorem dX5_lacks_1 : decode cX5_lacks 1 = .ok (.invokestatic 220, 3) := by decide +kernel
theorem dX5_lacks_4 : decode cX5_lacks 4 = .ok (.ifCond .ne 13, 3) := by decide +kernel
theorem dX5_lacks_7 : decode cX5_lacks 7 = .ok (.new 55, 3) := by decide +kernel
theorem dX5_lacks_10 : decode cX5_lacks 10 = .ok (.dup, 1) := by decide +kernel
theorem dX5_lacks_11 : decode cX5_lacks 11 = .ok (.ldc 223, 2) := by decide +kernel
theorem dX5_lacks_13 : decode cX5_lacks 13 = .ok (.invokespecial 59, 3) := by decide +kernel
theorem dX5_lacks_16 : decode cX5_lacks 16 = .ok (.athrow, 1) := by decide +kernel
theorem dX5_lacks_17 : decode cX5_lacks 17 = .ok (.iconst 0, 1) := by decide +kernel
theorem dX5_lacks_18 : decode cX5_lacks 18 = .ok (.aload_n 0, 1) := by decide +kernel
theorem dX5_lacks_19 : decode cX5_lacks 19 = .ok (.iload_n 1, 1) := by decide +kernel
theorem dX5_lacks_20 : decode cX5_lacks 20 = .ok (.invokestatic 225, 3) := by decide +kernel
theorem dX5_lacks_23 : decode cX5_lacks 23 = .ok (.invokevirtual 228, 3) := by decide +kernel
theorem dX5_lacks_26 : decode cX5_lacks 26 = .ok (.aload_n 0, 1) := by decide +kernel
theorem dX5_lacks_27 : decode cX5_lacks 27 = .ok (.getfield 12, 3) := by decide +kernel
theorem dX5_lacks_30 : decode cX5_lacks 30 = .ok (.getfield 98, 3) := by decide +kernel
theorem dX5_lacks_33 : decode cX5_lacks 33 = .ok (.isub, 1) := by decide +kernel
theorem dX5_lacks_34 : decode cX5_lacks 34 = .ok (.invokestatic 231, 3) := by decide +kernel
theorem dX5_lacks_37 : decode cX5_lacks 37 = .ok (.ireturn, 1) := by decide +kernel
theorem dX5_count_0 : decode cX5_count 0 = .ok (.iload_n 1, 1) := by decide +kernel
theorem dX5_count_1 : decode cX5_count 1 = .ok (.tableswitch 154 0 8 #[51, 62, 70, 81, 92, 100, 108, 116, 146], 51) := by decide +kernel
theorem dX5_count_52 : decode cX5_count 52 = .ok (.aload_n 0, 1) := by decide +kernel
theorem dX5_count_53 : decode cX5_count 53 = .ok (.getfield 12, 3) := by decide +kernel
theorem dX5_count_56 : decode cX5_count 56 = .ok (.getfield 66, 3) := by decide +kernel
theorem dX5_count_59 : decode cX5_count 59 = .ok (.getfield 70, 3) := by decide +kernel
theorem dX5_count_62 : decode cX5_count 62 = .ok (.ireturn, 1) := by decide +kernel
theorem dX5_count_63 : decode cX5_count 63 = .ok (.aload_n 0, 1) := by decide +kernel
theorem dX5_count_64 : decode cX5_count 64 = .ok (.getfield 12, 3) := by decide +kernel
theorem dX5_count_67 : decode cX5_count 67 = .ok (.getfield 98, 3) := by decide +kernel
theorem dX5_count_70 : decode cX5_count 70 = .ok (.ireturn, 1) := by decide +kernel
theorem dX5_count_71 : decode cX5_count 71 = .ok (.aload_n 0, 1) := by decide +kernel
theorem dX5_count_72 : decode cX5_count 72 = .ok (.getfield 12, 3) := by decide +kernel
theorem dX5_count_75 : decode cX5_count 75 = .ok (.getfield 66, 3) := by decide +kernel
theorem dX5_count_78 : decode cX5_count 78 = .ok (.invokevirtual 179, 3) := by decide +kernel
theorem dX5_count_81 : decode cX5_count 81 = .ok (.ireturn, 1) := by decide +kernel
theorem dX5_count_82 : decode cX5_count 82 = .ok (.aload_n 0, 1) := by decide +kernel
theorem dX5_count_83 : decode cX5_count 83 = .ok (.getfield 12, 3) := by decide +kernel
theorem dX5_count_86 : decode cX5_count 86 = .ok (.getfield 66, 3) := by decide +kernel
theorem dX5_count_89 : decode cX5_count 89 = .ok (.invokevirtual 234, 3) := by decide +kernel
theorem dX5_count_92 : decode cX5_count 92 = .ok (.ireturn, 1) := by decide +kernel
theorem dX5_count_93 : decode cX5_count 93 = .ok (.aload_n 0, 1) := by decide +kernel
theorem dX5_count_94 : decode cX5_count 94 = .ok (.getfield 12, 3) := by decide +kernel
theorem dX5_count_97 : decode cX5_count 97 = .ok (.getfield 237, 3) := by decide +kernel
theorem dX5_count_100 : decode cX5_count 100 = .ok (.ireturn, 1) := by decide +kernel
theorem dX5_count_101 : decode cX5_count 101 = .ok (.aload_n 0, 1) := by decide +kernel
theorem dX5_count_102 : decode cX5_count 102 = .ok (.getfield 12, 3) := by decide +kernel
theorem dX5_count_105 : decode cX5_count 105 = .ok (.getfield 240, 3) := by decide +kernel
theorem dX5_count_108 : decode cX5_count 108 = .ok (.ireturn, 1) := by decide +kernel
theorem dX5_count_109 : decode cX5_count 109 = .ok (.aload_n 0, 1) := by decide +kernel
theorem dX5_count_110 : decode cX5_count 110 = .ok (.getfield 12, 3) := by decide +kernel
theorem dX5_count_113 : decode cX5_count 113 = .ok (.getfield 243, 3) := by decide +kernel
theorem dX5_count_116 : decode cX5_count 116 = .ok (.ireturn, 1) := by decide +kernel
theorem dX5_count_117 : decode cX5_count 117 = .ok (.aload_n 0, 1) := by decide +kernel
theorem dX5_count_118 : decode cX5_count 118 = .ok (.getfield 30, 3) := by decide +kernel
theorem dX5_count_121 : decode cX5_count 121 = .ok (.iconst 0, 1) := by decide +kernel
theorem dX5_count_122 : decode cX5_count 122 = .ok (.baload, 1) := by decide +kernel
theorem dX5_count_123 : decode cX5_count 123 = .ok (.ifCond .eq 7, 3) := by decide +kernel
theorem dX5_count_126 : decode cX5_count 126 = .ok (.iconst 1, 1) := by decide +kernel
theorem dX5_count_127 : decode cX5_count 127 = .ok (.goto 4, 3) := by decide +kernel
theorem dX5_count_130 : decode cX5_count 130 = .ok (.iconst 0, 1) := by decide +kernel
theorem dX5_count_131 : decode cX5_count 131 = .ok (.aload_n 0, 1) := by decide +kernel
theorem dX5_count_132 : decode cX5_count 132 = .ok (.getfield 30, 3) := by decide +kernel
theorem dX5_count_135 : decode cX5_count 135 = .ok (.iconst 1, 1) := by decide +kernel
theorem dX5_count_136 : decode cX5_count 136 = .ok (.baload, 1) := by decide +kernel
theorem dX5_count_137 : decode cX5_count 137 = .ok (.ifCond .eq 7, 3) := by decide +kernel
theorem dX5_count_140 : decode cX5_count 140 = .ok (.iconst 1, 1) := by decide +kernel
theorem dX5_count_141 : decode cX5_count 141 = .ok (.goto 4, 3) := by decide +kernel
theorem dX5_count_144 : decode cX5_count 144 = .ok (.iconst 0, 1) := by decide +kernel
theorem dX5_count_145 : decode cX5_count 145 = .ok (.iadd, 1) := by decide +kernel
theorem dX5_count_146 : decode cX5_count 146 = .ok (.ireturn, 1) := by decide +kernel
theorem dX5_count_147 : decode cX5_count 147 = .ok (.aload_n 0, 1) := by decide +kernel
theorem dX5_count_148 : decode cX5_count 148 = .ok (.getfield 19, 3) := by decide +kernel
theorem dX5_count_151 : decode cX5_count 151 = .ok (.getfield 184, 3) := by decide +kernel
theorem dX5_count_154 : decode cX5_count 154 = .ok (.ireturn, 1) := by decide +kernel
theorem dX5_count_155 : decode cX5_count 155 = .ok (.new 55, 3) := by decide +kernel
theorem dX5_count_158 : decode cX5_count 158 = .ok (.dup, 1) := by decide +kernel
theorem dX5_count_159 : decode cX5_count 159 = .ok (.ldc 246, 2) := by decide +kernel
theorem dX5_count_161 : decode cX5_count 161 = .ok (.invokespecial 59, 3) := by decide +kernel
theorem dX5_count_164 : decode cX5_count 164 = .ok (.athrow, 1) := by decide +kernel
theorem dX5_density_0 : decode cX5_density 0 = .ok (.bipush 6, 2) := by decide +kernel
theorem dX5_density_2 : decode cX5_density 2 = .ok (.aload_n 0, 1) := by decide +kernel
theorem dX5_density_3 : decode cX5_density 3 = .ok (.getfield 12, 3) := by decide +kernel
theorem dX5_density_6 : decode cX5_density 6 = .ok (.getfield 66, 3) := by decide +kernel
theorem dX5_density_9 : decode cX5_density 9 = .ok (.getfield 70, 3) := by decide +kernel
theorem dX5_density_12 : decode cX5_density 12 = .ok (.iconst 2, 1) := by decide +kernel
theorem dX5_density_13 : decode cX5_density 13 = .ok (.isub, 1) := by decide +kernel
theorem dX5_density_14 : decode cX5_density 14 = .ok (.iconst 1, 1) := by decide +kernel
theorem dX5_density_15 : decode cX5_density 15 = .ok (.iadd, 1) := by decide +kernel
theorem dX5_density_16 : decode cX5_density 16 = .ok (.imul, 1) := by decide +kernel
theorem dX5_density_17 : decode cX5_density 17 = .ok (.istore_n 1, 1) := by decide +kernel
theorem dX5_density_18 : decode cX5_density 18 = .ok (.aload_n 0, 1) := by decide +kernel
theorem dX5_density_19 : decode cX5_density 19 = .ok (.getfield 12, 3) := by decide +kernel
theorem dX5_density_22 : decode cX5_density 22 = .ok (.getfield 66, 3) := by decide +kernel
theorem dX5_density_25 : decode cX5_density 25 = .ok (.invokevirtual 248, 3) := by decide +kernel
theorem dX5_density_28 : decode cX5_density 28 = .ok (.i2d, 1) := by decide +kernel
theorem dX5_density_29 : decode cX5_density 29 = .ok (.iload_n 1, 1) := by decide +kernel
theorem dX5_density_30 : decode cX5_density 30 = .ok (.i2d, 1) := by decide +kernel
theorem dX5_density_31 : decode cX5_density 31 = .ok (.ddiv, 1) := by decide +kernel
theorem dX5_density_32 : decode cX5_density 32 = .ok (.dreturn, 1) := by decide +kernel
theorem dX5_digest_0 : decode cX5_digest 0 = .ok (.ldc2_w 251, 3) := by decide +kernel
theorem dX5_digest_3 : decode cX5_digest 3 = .ok (.lstore_n 1, 1) := by decide +kernel
theorem dX5_digest_4 : decode cX5_digest 4 = .ok (.iconst 0, 1) := by decide +kernel
theorem dX5_digest_5 : decode cX5_digest 5 = .ok (.istore_n 3, 1) := by decide +kernel
theorem dX5_digest_6 : decode cX5_digest 6 = .ok (.iload_n 3, 1) := by decide +kernel
theorem dX5_digest_7 : decode cX5_digest 7 = .ok (.bipush 9, 2) := by decide +kernel
theorem dX5_digest_9 : decode cX5_digest 9 = .ok (.if_icmp .ge 22, 3) := by decide +kernel
theorem dX5_digest_12 : decode cX5_digest 12 = .ok (.ldc2_w 253, 3) := by decide +kernel
theorem dX5_digest_15 : decode cX5_digest 15 = .ok (.lload_n 1, 1) := by decide +kernel
theorem dX5_digest_16 : decode cX5_digest 16 = .ok (.lmul, 1) := by decide +kernel
theorem dX5_digest_17 : decode cX5_digest 17 = .ok (.aload_n 0, 1) := by decide +kernel
theorem dX5_digest_18 : decode cX5_digest 18 = .ok (.iload_n 3, 1) := by decide +kernel
theorem dX5_digest_19 : decode cX5_digest 19 = .ok (.invokevirtual 255, 3) := by decide +kernel
theorem dX5_digest_22 : decode cX5_digest 22 = .ok (.i2l, 1) := by decide +kernel
theorem dX5_digest_23 : decode cX5_digest 23 = .ok (.ladd, 1) := by decide +kernel
theorem dX5_digest_24 : decode cX5_digest 24 = .ok (.lstore_n 1, 1) := by decide +kernel
theorem dX5_digest_25 : decode cX5_digest 25 = .ok (.iinc 3 1, 3) := by decide +kernel
theorem dX5_digest_28 : decode cX5_digest 28 = .ok (.goto (-22), 3) := by decide +kernel
theorem dX5_digest_31 : decode cX5_digest 31 = .ok (.iconst 0, 1) := by decide +kernel
theorem dX5_digest_32 : decode cX5_digest 32 = .ok (.istore_n 3, 1) := by decide +kernel
theorem dX5_digest_33 : decode cX5_digest 33 = .ok (.iload_n 3, 1) := by decide +kernel
theorem dX5_digest_34 : decode cX5_digest 34 = .ok (.bipush 6, 2) := by decide +kernel
theorem dX5_digest_36 : decode cX5_digest 36 = .ok (.if_icmp .ge 50, 3) := by decide +kernel
theorem dX5_digest_39 : decode cX5_digest 39 = .ok (.lload_n 1, 1) := by decide +kernel
theorem dX5_digest_40 : decode cX5_digest 40 = .ok (.aload_n 0, 1) := by decide +kernel
theorem dX5_digest_41 : decode cX5_digest 41 = .ok (.getfield 12, 3) := by decide +kernel
theorem dX5_digest_44 : decode cX5_digest 44 = .ok (.getfield 66, 3) := by decide +kernel
theorem dX5_digest_47 : decode cX5_digest 47 = .ok (.getfield 85, 3) := by decide +kernel
theorem dX5_digest_50 : decode cX5_digest 50 = .ok (.iload_n 3, 1) := by decide +kernel
theorem dX5_digest_51 : decode cX5_digest 51 = .ok (.aaload, 1) := by decide +kernel
theorem dX5_digest_52 : decode cX5_digest 52 = .ok (.invokestatic 258, 3) := by decide +kernel
theorem dX5_digest_55 : decode cX5_digest 55 = .ok (.lstore_n 1, 1) := by decide +kernel
theorem dX5_digest_56 : decode cX5_digest 56 = .ok (.lload_n 1, 1) := by decide +kernel
theorem dX5_digest_57 : decode cX5_digest 57 = .ok (.aload_n 0, 1) := by decide +kernel
theorem dX5_digest_58 : decode cX5_digest 58 = .ok (.getfield 12, 3) := by decide +kernel
theorem dX5_digest_61 : decode cX5_digest 61 = .ok (.getfield 66, 3) := by decide +kernel
theorem dX5_digest_64 : decode cX5_digest 64 = .ok (.getfield 93, 3) := by decide +kernel
theorem dX5_digest_67 : decode cX5_digest 67 = .ok (.iload_n 3, 1) := by decide +kernel
theorem dX5_digest_68 : decode cX5_digest 68 = .ok (.aaload, 1) := by decide +kernel
theorem dX5_digest_69 : decode cX5_digest 69 = .ok (.invokestatic 258, 3) := by decide +kernel
theorem dX5_digest_72 : decode cX5_digest 72 = .ok (.lstore_n 1, 1) := by decide +kernel
theorem dX5_digest_73 : decode cX5_digest 73 = .ok (.aload_n 0, 1) := by decide +kernel
theorem dX5_digest_74 : decode cX5_digest 74 = .ok (.lload_n 1, 1) := by decide +kernel
theorem dX5_digest_75 : decode cX5_digest 75 = .ok (.iload_n 3, 1) := by decide +kernel
theorem dX5_digest_76 : decode cX5_digest 76 = .ok (.invokevirtual 262, 3) := by decide +kernel
theorem dX5_digest_79 : decode cX5_digest 79 = .ok (.lstore_n 1, 1) := by decide +kernel
theorem dX5_digest_80 : decode cX5_digest 80 = .ok (.iinc 3 1, 3) := by decide +kernel
theorem dX5_digest_83 : decode cX5_digest 83 = .ok (.goto (-50), 3) := by decide +kernel
theorem dX5_digest_86 : decode cX5_digest 86 = .ok (.ldc2_w 253, 3) := by decide +kernel
theorem dX5_digest_89 : decode cX5_digest 89 = .ok (.lload_n 1, 1) := by decide +kernel
theorem dX5_digest_90 : decode cX5_digest 90 = .ok (.lmul, 1) := by decide +kernel
theorem dX5_digest_91 : decode cX5_digest 91 = .ok (.aload_n 0, 1) := by decide +kernel
theorem dX5_digest_92 : decode cX5_digest 92 = .ok (.invokevirtual 266, 3) := by decide +kernel
theorem dX5_digest_95 : decode cX5_digest 95 = .ok (.invokestatic 270, 3) := by decide +kernel
theorem dX5_digest_98 : decode cX5_digest 98 = .ok (.ladd, 1) := by decide +kernel
theorem dX5_digest_99 : decode cX5_digest 99 = .ok (.lstore_n 1, 1) := by decide +kernel
theorem dX5_digest_100 : decode cX5_digest 100 = .ok (.aload_n 0, 1) := by decide +kernel
theorem dX5_digest_101 : decode cX5_digest 101 = .ok (.getfield 37, 3) := by decide +kernel
theorem dX5_digest_104 : decode cX5_digest 104 = .ok (.lload_n 1, 1) := by decide +kernel
theorem dX5_digest_105 : decode cX5_digest 105 = .ok (.invokevirtual 274, 3) := by decide +kernel
theorem dX5_digest_108 : decode cX5_digest 108 = .ok (.lreturn, 1) := by decide +kernel
theorem dX5_needSlot_0 : decode cX5_needSlot 0 = .ok (.iload_n 0, 1) := by decide +kernel
theorem dX5_needSlot_1 : decode cX5_needSlot 1 = .ok (.ifCond .lt 9, 3) := by decide +kernel
theorem dX5_needSlot_4 : decode cX5_needSlot 4 = .ok (.iload_n 0, 1) := by decide +kernel
theorem dX5_needSlot_5 : decode cX5_needSlot 5 = .ok (.bipush 6, 2) := by decide +kernel
theorem dX5_needSlot_7 : decode cX5_needSlot 7 = .ok (.if_icmp .lt 14, 3) := by decide +kernel
theorem dX5_needSlot_10 : decode cX5_needSlot 10 = .ok (.new 278, 3) := by decide +kernel
theorem dX5_needSlot_13 : decode cX5_needSlot 13 = .ok (.dup, 1) := by decide +kernel
theorem dX5_needSlot_14 : decode cX5_needSlot 14 = .ok (.ldc_w 280, 3) := by decide +kernel
theorem dX5_needSlot_17 : decode cX5_needSlot 17 = .ok (.invokespecial 282, 3) := by decide +kernel
theorem dX5_needSlot_20 : decode cX5_needSlot 20 = .ok (.athrow, 1) := by decide +kernel
theorem dX5_needSlot_21 : decode cX5_needSlot 21 = .ok (.return_, 1) := by decide +kernel
theorem dX5_needPower_0 : decode cX5_needPower 0 = .ok (.iload_n 0, 1) := by decide +kernel
theorem dX5_needPower_1 : decode cX5_needPower 1 = .ok (.iload_n 1, 1) := by decide +kernel
theorem dX5_needPower_2 : decode cX5_needPower 2 = .ok (.if_icmp .lt 8, 3) := by decide +kernel
theorem dX5_needPower_5 : decode cX5_needPower 5 = .ok (.iload_n 0, 1) := by decide +kernel
theorem dX5_needPower_6 : decode cX5_needPower 6 = .ok (.iload_n 2, 1) := by decide +kernel
theorem dX5_needPower_7 : decode cX5_needPower 7 = .ok (.if_icmp .le 14, 3) := by decide +kernel
theorem dX5_needPower_10 : decode cX5_needPower 10 = .ok (.new 278, 3) := by decide +kernel
theorem dX5_needPower_13 : decode cX5_needPower 13 = .ok (.dup, 1) := by decide +kernel
theorem dX5_needPower_14 : decode cX5_needPower 14 = .ok (.ldc_w 283, 3) := by decide +kernel
theorem dX5_needPower_17 : decode cX5_needPower 17 = .ok (.invokespecial 282, 3) := by decide +kernel
theorem dX5_needPower_20 : decode cX5_needPower 20 = .ok (.athrow, 1) := by decide +kernel
theorem dX5_needPower_21 : decode cX5_needPower 21 = .ok (.return_, 1) := by decide +kernel
theorem dX5_needSnapshot_0 : decode cX5_needSnapshot 0 = .ok (.iload_n 0, 1) := by decide +kernel
theorem dX5_needSnapshot_1 : decode cX5_needSnapshot 1 = .ok (.ifCond .lt 8, 3) := by decide +kernel
theorem dX5_needSnapshot_4 : decode cX5_needSnapshot 4 = .ok (.iload_n 0, 1) := by decide +kernel
theorem dX5_needSnapshot_5 : decode cX5_needSnapshot 5 = .ok (.iconst 2, 1) := by decide +kernel
theorem dX5_needSnapshot_6 : decode cX5_needSnapshot 6 = .ok (.if_icmp .lt 14, 3) := by decide +kernel
theorem dX5_needSnapshot_9 : decode cX5_needSnapshot 9 = .ok (.new 278, 3) := by decide +kernel
theorem dX5_needSnapshot_12 : decode cX5_needSnapshot 12 = .ok (.dup, 1) := by decide +kernel
theorem dX5_needSnapshot_13 : decode cX5_needSnapshot 13 = .ok (.ldc_w 285, 3) := by decide +kernel
theorem dX5_needSnapshot_16 : decode cX5_needSnapshot 16 = .ok (.invokespecial 282, 3) := by decide +kernel
theorem dX5_needSnapshot_19 : decode cX5_needSnapshot 19 = .ok (.athrow, 1) := by decide +kernel
theorem dX5_needSnapshot_20 : decode cX5_needSnapshot 20 = .ok (.return_, 1) := by decide +kernel
theorem dX5_needMoney_0 : decode cX5_needMoney 0 = .ok (.aload_n 0, 1) := by decide +kernel
theorem dX5_needMoney_1 : decode cX5_needMoney 1 = .ok (.getfield 12, 3) := by decide +kernel
theorem dX5_needMoney_4 : decode cX5_needMoney 4 = .ok (.getfield 98, 3) := by decide +kernel
theorem dX5_needMoney_7 : decode cX5_needMoney 7 = .ok (.aload_n 0, 1) := by decide +kernel
theorem dX5_needMoney_8 : decode cX5_needMoney 8 = .ok (.iload_n 1, 1) := by decide +kernel
theorem dX5_needMoney_9 : decode cX5_needMoney 9 = .ok (.invokevirtual 228, 3) := by decide +kernel
theorem dX5_needMoney_12 : decode cX5_needMoney 12 = .ok (.if_icmp .ge 14, 3) := by decide +kernel
theorem dX5_needMoney_15 : decode cX5_needMoney 15 = .ok (.new 102, 3) := by decide +kernel
theorem dX5_needMoney_18 : decode cX5_needMoney 18 = .ok (.dup, 1) := by decide +kernel
theorem dX5_needMoney_19 : decode cX5_needMoney 19 = .ok (.ldc_w 287, 3) := by decide +kernel
theorem dX5_needMoney_22 : decode cX5_needMoney 22 = .ok (.invokespecial 106, 3) := by decide +kernel
theorem dX5_needMoney_25 : decode cX5_needMoney 25 = .ok (.athrow, 1) := by decide +kernel
theorem dX5_needMoney_26 : decode cX5_needMoney 26 = .ok (.return_, 1) := by decide +kernel
theorem dX5_costOf_0 : decode cX5_costOf 0 = .ok (.iload_n 1, 1) := by decide +kernel
theorem dX5_costOf_1 : decode cX5_costOf 1 = .ok (.aload_n 0, 1) := by decide +kernel
theorem dX5_costOf_2 : decode cX5_costOf 2 = .ok (.getfield 12, 3) := by decide +kernel
theorem dX5_costOf_5 : decode cX5_costOf 5 = .ok (.getfield 66, 3) := by decide +kernel
theorem dX5_costOf_8 : decode cX5_costOf 8 = .ok (.getfield 70, 3) := by decide +kernel
theorem dX5_costOf_11 : decode cX5_costOf 11 = .ok (.imul, 1) := by decide +kernel
theorem dX5_costOf_12 : decode cX5_costOf 12 = .ok (.ireturn, 1) := by decide +kernel
theorem dX5_pay_0 : decode cX5_pay 0 = .ok (.aload_n 0, 1) := by decide +kernel
theorem dX5_pay_1 : decode cX5_pay 1 = .ok (.iload_n 1, 1) := by decide +kernel
theorem dX5_pay_2 : decode cX5_pay 2 = .ok (.invokevirtual 228, 3) := by decide +kernel
theorem dX5_pay_5 : decode cX5_pay 5 = .ok (.istore_n 2, 1) := by decide +kernel
theorem dX5_pay_6 : decode cX5_pay 6 = .ok (.aload_n 0, 1) := by decide +kernel
theorem dX5_pay_7 : decode cX5_pay 7 = .ok (.getfield 12, 3) := by decide +kernel
theorem dX5_pay_10 : decode cX5_pay 10 = .ok (.dup, 1) := by decide +kernel
theorem dX5_pay_11 : decode cX5_pay 11 = .ok (.getfield 98, 3) := by decide +kernel
theorem dX5_pay_14 : decode cX5_pay 14 = .ok (.iload_n 2, 1) := by decide +kernel
theorem dX5_pay_15 : decode cX5_pay 15 = .ok (.isub, 1) := by decide +kernel
theorem dX5_pay_16 : decode cX5_pay 16 = .ok (.putfield 98, 3) := by decide +kernel
theorem dX5_pay_19 : decode cX5_pay 19 = .ok (.aload_n 0, 1) := by decide +kernel
theorem dX5_pay_20 : decode cX5_pay 20 = .ok (.getfield 12, 3) := by decide +kernel
theorem dX5_pay_23 : decode cX5_pay 23 = .ok (.dup, 1) := by decide +kernel
theorem dX5_pay_24 : decode cX5_pay 24 = .ok (.getfield 237, 3) := by decide +kernel
theorem dX5_pay_27 : decode cX5_pay 27 = .ok (.iload_n 2, 1) := by decide +kernel
theorem dX5_pay_28 : decode cX5_pay 28 = .ok (.iadd, 1) := by decide +kernel
theorem dX5_pay_29 : decode cX5_pay 29 = .ok (.putfield 237, 3) := by decide +kernel
theorem dX5_pay_32 : decode cX5_pay 32 = .ok (.aload_n 0, 1) := by decide +kernel
theorem dX5_pay_33 : decode cX5_pay 33 = .ok (.getfield 12, 3) := by decide +kernel
theorem dX5_pay_36 : decode cX5_pay 36 = .ok (.dup, 1) := by decide +kernel
theorem dX5_pay_37 : decode cX5_pay 37 = .ok (.getfield 240, 3) := by decide +kernel
theorem dX5_pay_40 : decode cX5_pay 40 = .ok (.iconst 1, 1) := by decide +kernel
theorem dX5_pay_41 : decode cX5_pay 41 = .ok (.iadd, 1) := by decide +kernel
theorem dX5_pay_42 : decode cX5_pay 42 = .ok (.putfield 240, 3) := by decide +kernel
theorem dX5_pay_45 : decode cX5_pay 45 = .ok (.return_, 1) := by decide +kernel
theorem dX5_replace_0 : decode cX5_replace 0 = .ok (.aload_n 0, 1) := by decide +kernel
theorem dX5_replace_1 : decode cX5_replace 1 = .ok (.iload_n 1, 1) := by decide +kernel
theorem dX5_replace_2 : decode cX5_replace 2 = .ok (.iaload, 1) := by decide +kernel
theorem dX5_replace_3 : decode cX5_replace 3 = .ok (.istore_n 3, 1) := by decide +kernel
theorem dX5_replace_4 : decode cX5_replace 4 = .ok (.aload_n 0, 1) := by decide +kernel
theorem dX5_replace_5 : decode cX5_replace 5 = .ok (.iload_n 1, 1) := by decide +kernel
theorem dX5_replace_6 : decode cX5_replace 6 = .ok (.iload_n 2, 1) := by decide +kernel
theorem dX5_replace_7 : decode cX5_replace 7 = .ok (.sipush 10007, 3) := by decide +kernel
theorem dX5_replace_10 : decode cX5_replace 10 = .ok (.invokestatic 117, 3) := by decide +kernel
theorem dX5_replace_13 : decode cX5_replace 13 = .ok (.iastore, 1) := by decide +kernel
theorem dX5_replace_14 : decode cX5_replace 14 = .ok (.iload_n 3, 1) := by decide +kernel
theorem dX5_replace_15 : decode cX5_replace 15 = .ok (.ireturn, 1) := by decide +kernel
theorem dX5_put_0 : decode cX5_put 0 = .ok (.aload_n 0, 1) := by decide +kernel
theorem dX5_put_1 : decode cX5_put 1 = .ok (.getfield 48, 3) := by decide +kernel
theorem dX5_put_4 : decode cX5_put 4 = .ok (.iconst 0, 1) := by decide +kernel
theorem dX5_put_5 : decode cX5_put 5 = .ok (.aload_n 1, 1) := by decide +kernel
theorem dX5_put_6 : decode cX5_put 6 = .ok (.iconst 0, 1) := by decide +kernel
theorem dX5_put_7 : decode cX5_put 7 = .ok (.bipush 7, 2) := by decide +kernel
theorem dX5_put_9 : decode cX5_put 9 = .ok (.invokestatic 289, 3) := by decide +kernel
theorem dX5_put_12 : decode cX5_put 12 = .ok (.aload_n 1, 1) := by decide +kernel
theorem dX5_put_13 : decode cX5_put 13 = .ok (.invokestatic 202, 3) := by decide +kernel
theorem dX5_put_16 : decode cX5_put 16 = .ok (.ireturn, 1) := by decide +kernel
theorem dX5_repeat_0 : decode cX5_repeat 0 = .ok (.aload_n 0, 1) := by decide +kernel
theorem dX5_repeat_1 : decode cX5_repeat 1 = .ok (.bipush 8, 2) := by decide +kernel
theorem dX5_repeat_3 : decode cX5_repeat 3 = .ok (.invokevirtual 111, 3) := by decide +kernel
theorem dX5_repeat_6 : decode cX5_repeat 6 = .ok (.aload_n 0, 1) := by decide +kernel
theorem dX5_repeat_7 : decode cX5_repeat 7 = .ok (.getfield 19, 3) := by decide +kernel
theorem dX5_repeat_10 : decode cX5_repeat 10 = .ok (.aload_n 0, 1) := by decide +kernel
theorem dX5_repeat_11 : decode cX5_repeat 11 = .ok (.getfield 12, 3) := by decide +kernel
theorem dX5_repeat_14 : decode cX5_repeat 14 = .ok (.invokevirtual 62, 3) := by decide +kernel
theorem dX5_repeat_17 : decode cX5_repeat 17 = .ok (.aload_n 0, 1) := by decide +kernel
theorem dX5_repeat_18 : decode cX5_repeat 18 = .ok (.bipush 8, 2) := by decide +kernel
theorem dX5_repeat_20 : decode cX5_repeat 20 = .ok (.invokevirtual 114, 3) := by decide +kernel
theorem dX5_repeat_23 : decode cX5_repeat 23 = .ok (.aload_n 0, 1) := by decide +kernel
theorem dX5_repeat_24 : decode cX5_repeat 24 = .ok (.getfield 44, 3) := by decide +kernel
theorem dX5_repeat_27 : decode cX5_repeat 27 = .ok (.aload_n 0, 1) := by decide +kernel
theorem dX5_repeat_28 : decode cX5_repeat 28 = .ok (.getfield 12, 3) := by decide +kernel
theorem dX5_repeat_31 : decode cX5_repeat 31 = .ok (.getfield 66, 3) := by decide +kernel
theorem dX5_repeat_34 : decode cX5_repeat 34 = .ok (.getfield 93, 3) := by decide +kernel
theorem dX5_repeat_37 : decode cX5_repeat 37 = .ok (.iload_n 1, 1) := by decide +kernel
theorem dX5_repeat_38 : decode cX5_repeat 38 = .ok (.aaload, 1) := by decide +kernel
theorem dX5_repeat_39 : decode cX5_repeat 39 = .ok (.iload_n 2, 1) := by decide +kernel
theorem dX5_repeat_40 : decode cX5_repeat 40 = .ok (.aload_n 0, 1) := by decide +kernel
theorem dX5_repeat_41 : decode cX5_repeat 41 = .ok (.getfield 12, 3) := by decide +kernel
theorem dX5_repeat_44 : decode cX5_repeat 44 = .ok (.getfield 66, 3) := by decide +kernel
theorem dX5_repeat_47 : decode cX5_repeat 47 = .ok (.getfield 70, 3) := by decide +kernel
theorem dX5_repeat_50 : decode cX5_repeat 50 = .ok (.aload_n 0, 1) := by decide +kernel
theorem dX5_repeat_51 : decode cX5_repeat 51 = .ok (.getfield 48, 3) := by decide +kernel
theorem dX5_repeat_54 : decode cX5_repeat 54 = .ok (.invokevirtual 295, 3) := by decide +kernel
theorem dX5_repeat_57 : decode cX5_repeat 57 = .ok (.aload_n 0, 1) := by decide +kernel
theorem dX5_repeat_58 : decode cX5_repeat 58 = .ok (.aload_n 0, 1) := by decide +kernel
theorem dX5_repeat_59 : decode cX5_repeat 59 = .ok (.getfield 12, 3) := by decide +kernel
theorem dX5_repeat_62 : decode cX5_repeat 62 = .ok (.getfield 66, 3) := by decide +kernel
theorem dX5_repeat_65 : decode cX5_repeat 65 = .ok (.getfield 93, 3) := by decide +kernel
theorem dX5_repeat_68 : decode cX5_repeat 68 = .ok (.iload_n 3, 1) := by decide +kernel
theorem dX5_repeat_69 : decode cX5_repeat 69 = .ok (.aaload, 1) := by decide +kernel
theorem dX5_repeat_70 : decode cX5_repeat 70 = .ok (.invokevirtual 127, 3) := by decide +kernel
theorem dX5_repeat_73 : decode cX5_repeat 73 = .ok (.ireturn, 1) := by decide +kernel
theorem dX5_unitsOf_0 : decode cX5_unitsOf 0 = .ok (.iload_n 0, 1) := by decide +kernel
theorem dX5_unitsOf_1 : decode cX5_unitsOf 1 = .ok (.tableswitch 117 98 119 #[103, 115, 117, 113, 117, 117, 117, 115, 117, 117, 110, 117, 117, 117, 110, 117, 117, 105, 117, 117, 117, 107], 103) := by decide +kernel
theorem dX5_unitsOf_104 : decode cX5_unitsOf 104 = .ok (.iconst 2, 1) := by decide +kernel
theorem dX5_unitsOf_105 : decode cX5_unitsOf 105 = .ok (.ireturn, 1) := by decide +kernel
theorem dX5_unitsOf_106 : decode cX5_unitsOf 106 = .ok (.iconst 1, 1) := by decide +kernel
theorem dX5_unitsOf_107 : decode cX5_unitsOf 107 = .ok (.ireturn, 1) := by decide +kernel
theorem dX5_unitsOf_108 : decode cX5_unitsOf 108 = .ok (.bipush 20, 2) := by decide +kernel
theorem dX5_unitsOf_110 : decode cX5_unitsOf 110 = .ok (.ireturn, 1) := by decide +kernel
theorem dX5_unitsOf_111 : decode cX5_unitsOf 111 = .ok (.bipush 6, 2) := by decide +kernel
theorem dX5_unitsOf_113 : decode cX5_unitsOf 113 = .ok (.ireturn, 1) := by decide +kernel
theorem dX5_unitsOf_114 : decode cX5_unitsOf 114 = .ok (.iconst 5, 1) := by decide +kernel
theorem dX5_unitsOf_115 : decode cX5_unitsOf 115 = .ok (.ireturn, 1) := by decide +kernel
theorem dX5_unitsOf_116 : decode cX5_unitsOf 116 = .ok (.iconst 4, 1) := by decide +kernel
theorem dX5_unitsOf_117 : decode cX5_unitsOf 117 = .ok (.ireturn, 1) := by decide +kernel
theorem dX5_unitsOf_118 : decode cX5_unitsOf 118 = .ok (.iconst 0, 1) := by decide +kernel
theorem dX5_unitsOf_119 : decode cX5_unitsOf 119 = .ok (.ireturn, 1) := by decide +kernel
theorem dX5_orderAlone_0 : decode cX5_orderAlone 0 = .ok (.iload_n 2, 1) := by decide +kernel
theorem dX5_orderAlone_1 : decode cX5_orderAlone 1 = .ok (.invokestatic 78, 3) := by decide +kernel
theorem dX5_orderAlone_4 : decode cX5_orderAlone 4 = .ok (.iload_n 3, 1) := by decide +kernel
theorem dX5_orderAlone_5 : decode cX5_orderAlone 5 = .ok (.invokestatic 78, 3) := by decide +kernel
theorem dX5_orderAlone_8 : decode cX5_orderAlone 8 = .ok (.iload 4, 2) := by decide +kernel
theorem dX5_orderAlone_10 : decode cX5_orderAlone 10 = .ok (.invokestatic 78, 3) := by decide +kernel
theorem dX5_orderAlone_13 : decode cX5_orderAlone 13 = .ok (.aload_n 0, 1) := by decide +kernel
theorem dX5_orderAlone_14 : decode cX5_orderAlone 14 = .ok (.iload_n 1, 1) := by decide +kernel
theorem dX5_orderAlone_15 : decode cX5_orderAlone 15 = .ok (.invokestatic 225, 3) := by decide +kernel
theorem dX5_orderAlone_18 : decode cX5_orderAlone 18 = .ok (.invokevirtual 111, 3) := by decide +kernel
theorem dX5_orderAlone_21 : decode cX5_orderAlone 21 = .ok (.aload_n 0, 1) := by decide +kernel
theorem dX5_orderAlone_22 : decode cX5_orderAlone 22 = .ok (.getfield 19, 3) := by decide +kernel
theorem dX5_orderAlone_25 : decode cX5_orderAlone 25 = .ok (.aload_n 0, 1) := by decide +kernel
theorem dX5_orderAlone_26 : decode cX5_orderAlone 26 = .ok (.getfield 12, 3) := by decide +kernel
theorem dX5_orderAlone_29 : decode cX5_orderAlone 29 = .ok (.invokevirtual 62, 3) := by decide +kernel
theorem dX5_orderAlone_32 : decode cX5_orderAlone 32 = .ok (.aload_n 0, 1) := by decide +kernel
theorem dX5_orderAlone_33 : decode cX5_orderAlone 33 = .ok (.iload_n 1, 1) := by decide +kernel
theorem dX5_orderAlone_34 : decode cX5_orderAlone 34 = .ok (.iload_n 2, 1) := by decide +kernel
theorem dX5_orderAlone_35 : decode cX5_orderAlone 35 = .ok (.iload_n 3, 1) := by decide +kernel
theorem dX5_orderAlone_36 : decode cX5_orderAlone 36 = .ok (.iload 4, 2) := by decide +kernel
theorem dX5_orderAlone_38 : decode cX5_orderAlone 38 = .ok (.invokevirtual 299, 3) := by decide +kernel
theorem dX5_orderAlone_41 : decode cX5_orderAlone 41 = .ok (.ireturn, 1) := by decide +kernel
theorem dX5_carryOutAll_0 : decode cX5_carryOutAll 0 = .ok (.iconst 0, 1) := by decide +kernel
theorem dX5_carryOutAll_1 : decode cX5_carryOutAll 1 = .ok (.istore_n 1, 1) := by decide +kernel
theorem dX5_carryOutAll_2 : decode cX5_carryOutAll 2 = .ok (.iconst 0, 1) := by decide +kernel
theorem dX5_carryOutAll_3 : decode cX5_carryOutAll 3 = .ok (.istore_n 2, 1) := by decide +kernel
theorem dX5_carryOutAll_4 : decode cX5_carryOutAll 4 = .ok (.iload_n 2, 1) := by decide +kernel
theorem dX5_carryOutAll_5 : decode cX5_carryOutAll 5 = .ok (.aload_n 0, 1) := by decide +kernel
theorem dX5_carryOutAll_6 : decode cX5_carryOutAll 6 = .ok (.getfield 37, 3) := by decide +kernel
theorem dX5_carryOutAll_9 : decode cX5_carryOutAll 9 = .ok (.getfield 154, 3) := by decide +kernel
theorem dX5_carryOutAll_12 : decode cX5_carryOutAll 12 = .ok (.if_icmp .ge 94, 3) := by decide +kernel
theorem dX5_carryOutAll_15 : decode cX5_carryOutAll 15 = .ok (.aload_n 0, 1) := by decide +kernel
theorem dX5_carryOutAll_16 : decode cX5_carryOutAll 16 = .ok (.getfield 37, 3) := by decide +kernel
theorem dX5_carryOutAll_19 : decode cX5_carryOutAll 19 = .ok (.iload_n 2, 1) := by decide +kernel
theorem dX5_carryOutAll_20 : decode cX5_carryOutAll 20 = .ok (.invokevirtual 302, 3) := by decide +kernel
theorem dX5_carryOutAll_23 : decode cX5_carryOutAll 23 = .ok (.istore_n 3, 1) := by decide +kernel
theorem dX5_carryOutAll_24 : decode cX5_carryOutAll 24 = .ok (.iload_n 3, 1) := by decide +kernel
theorem dX5_carryOutAll_25 : decode cX5_carryOutAll 25 = .ok (.invokestatic 220, 3) := by decide +kernel
theorem dX5_carryOutAll_28 : decode cX5_carryOutAll 28 = .ok (.istore 4, 2) := by decide +kernel
theorem dX5_carryOutAll_30 : decode cX5_carryOutAll 30 = .ok (.iload 4, 2) := by decide +kernel
theorem dX5_carryOutAll_32 : decode cX5_carryOutAll 32 = .ok (.ifCond .le 68, 3) := by decide +kernel
theorem dX5_carryOutAll_35 : decode cX5_carryOutAll 35 = .ok (.aload_n 0, 1) := by decide +kernel
theorem dX5_carryOutAll_36 : decode cX5_carryOutAll 36 = .ok (.getfield 12, 3) := by decide +kernel
theorem dX5_carryOutAll_39 : decode cX5_carryOutAll 39 = .ok (.getfield 98, 3) := by decide +kernel
theorem dX5_carryOutAll_42 : decode cX5_carryOutAll 42 = .ok (.aload_n 0, 1) := by decide +kernel
theorem dX5_carryOutAll_43 : decode cX5_carryOutAll 43 = .ok (.iload_n 3, 1) := by decide +kernel
theorem dX5_carryOutAll_44 : decode cX5_carryOutAll 44 = .ok (.invokestatic 225, 3) := by decide +kernel
theorem dX5_carryOutAll_47 : decode cX5_carryOutAll 47 = .ok (.invokevirtual 228, 3) := by decide +kernel
theorem dX5_carryOutAll_50 : decode cX5_carryOutAll 50 = .ok (.if_icmp .ge 5, 3) := by decide +kernel
theorem dX5_carryOutAll_53 : decode cX5_carryOutAll 53 = .ok (.iload_n 1, 1) := by decide +kernel
theorem dX5_carryOutAll_54 : decode cX5_carryOutAll 54 = .ok (.ireturn, 1) := by decide +kernel
theorem dX5_carryOutAll_55 : decode cX5_carryOutAll 55 = .ok (.iload_n 2, 1) := by decide +kernel
theorem dX5_carryOutAll_56 : decode cX5_carryOutAll 56 = .ok (.iload 4, 2) := by decide +kernel
theorem dX5_carryOutAll_58 : decode cX5_carryOutAll 58 = .ok (.iadd, 1) := by decide +kernel
theorem dX5_carryOutAll_59 : decode cX5_carryOutAll 59 = .ok (.istore 5, 2) := by decide +kernel
theorem dX5_carryOutAll_61 : decode cX5_carryOutAll 61 = .ok (.aload_n 0, 1) := by decide +kernel
theorem dX5_carryOutAll_62 : decode cX5_carryOutAll 62 = .ok (.iload_n 3, 1) := by decide +kernel
theorem dX5_carryOutAll_63 : decode cX5_carryOutAll 63 = .ok (.aload_n 0, 1) := by decide +kernel
theorem dX5_carryOutAll_64 : decode cX5_carryOutAll 64 = .ok (.getfield 37, 3) := by decide +kernel
theorem dX5_carryOutAll_67 : decode cX5_carryOutAll 67 = .ok (.iload_n 2, 1) := by decide +kernel
theorem dX5_carryOutAll_68 : decode cX5_carryOutAll 68 = .ok (.iconst 1, 1) := by decide +kernel
theorem dX5_carryOutAll_69 : decode cX5_carryOutAll 69 = .ok (.iadd, 1) := by decide +kernel
theorem dX5_carryOutAll_70 : decode cX5_carryOutAll 70 = .ok (.invokevirtual 305, 3) := by decide +kernel
theorem dX5_carryOutAll_73 : decode cX5_carryOutAll 73 = .ok (.aload_n 0, 1) := by decide +kernel
theorem dX5_carryOutAll_74 : decode cX5_carryOutAll 74 = .ok (.getfield 37, 3) := by decide +kernel
theorem dX5_carryOutAll_77 : decode cX5_carryOutAll 77 = .ok (.iload 5, 2) := by decide +kernel
theorem dX5_carryOutAll_79 : decode cX5_carryOutAll 79 = .ok (.invokevirtual 305, 3) := by decide +kernel
theorem dX5_carryOutAll_82 : decode cX5_carryOutAll 82 = .ok (.aload_n 0, 1) := by decide +kernel
theorem dX5_carryOutAll_83 : decode cX5_carryOutAll 83 = .ok (.getfield 37, 3) := by decide +kernel
theorem dX5_carryOutAll_86 : decode cX5_carryOutAll 86 = .ok (.iload 5, 2) := by decide +kernel
theorem dX5_carryOutAll_88 : decode cX5_carryOutAll 88 = .ok (.iconst 2, 1) := by decide +kernel
theorem dX5_carryOutAll_89 : decode cX5_carryOutAll 89 = .ok (.iadd, 1) := by decide +kernel
theorem dX5_carryOutAll_90 : decode cX5_carryOutAll 90 = .ok (.invokevirtual 305, 3) := by decide +kernel
theorem dX5_carryOutAll_93 : decode cX5_carryOutAll 93 = .ok (.invokevirtual 299, 3) := by decide +kernel
theorem dX5_carryOutAll_96 : decode cX5_carryOutAll 96 = .ok (.pop, 1) := by decide +kernel
theorem dX5_carryOutAll_97 : decode cX5_carryOutAll 97 = .ok (.iinc 1 1, 3) := by decide +kernel
theorem dX5_carryOutAll_100 : decode cX5_carryOutAll 100 = .ok (.iinc 2 1, 3) := by decide +kernel
theorem dX5_carryOutAll_103 : decode cX5_carryOutAll 103 = .ok (.goto (-99), 3) := by decide +kernel
theorem dX5_carryOutAll_106 : decode cX5_carryOutAll 106 = .ok (.iload_n 1, 1) := by decide +kernel
theorem dX5_carryOutAll_107 : decode cX5_carryOutAll 107 = .ok (.ireturn, 1) := by decide +kernel
theorem dX5_carryOut_0 : decode cX5_carryOut 0 = .ok (.aload_n 0, 1) := by decide +kernel
theorem dX5_carryOut_1 : decode cX5_carryOut 1 = .ok (.iload_n 1, 1) := by decide +kernel
theorem dX5_carryOut_2 : decode cX5_carryOut 2 = .ok (.invokestatic 225, 3) := by decide +kernel
theorem dX5_carryOut_5 : decode cX5_carryOut 5 = .ok (.invokevirtual 114, 3) := by decide +kernel
theorem dX5_carryOut_8 : decode cX5_carryOut 8 = .ok (.iload_n 1, 1) := by decide +kernel
theorem dX5_carryOut_9 : decode cX5_carryOut 9 = .ok (.bipush 98, 2) := by decide +kernel
theorem dX5_carryOut_11 : decode cX5_carryOut 11 = .ok (.if_icmp .ne 16, 3) := by decide +kernel
theorem dX5_carryOut_14 : decode cX5_carryOut 14 = .ok (.aload_n 0, 1) := by decide +kernel
theorem dX5_carryOut_15 : decode cX5_carryOut 15 = .ok (.getfield 12, 3) := by decide +kernel
theorem dX5_carryOut_18 : decode cX5_carryOut 18 = .ok (.dup, 1) := by decide +kernel
theorem dX5_carryOut_19 : decode cX5_carryOut 19 = .ok (.getfield 243, 3) := by decide +kernel
theorem dX5_carryOut_22 : decode cX5_carryOut 22 = .ok (.iconst 1, 1) := by decide +kernel
theorem dX5_carryOut_23 : decode cX5_carryOut 23 = .ok (.iadd, 1) := by decide +kernel
theorem dX5_carryOut_24 : decode cX5_carryOut 24 = .ok (.putfield 243, 3) := by decide +kernel
theorem dX5_carryOut_27 : decode cX5_carryOut 27 = .ok (.aload_n 0, 1) := by decide +kernel
theorem dX5_carryOut_28 : decode cX5_carryOut 28 = .ok (.getfield 12, 3) := by decide +kernel
theorem dX5_carryOut_31 : decode cX5_carryOut 31 = .ok (.getfield 66, 3) := by decide +kernel
theorem dX5_carryOut_34 : decode cX5_carryOut 34 = .ok (.getfield 85, 3) := by decide +kernel
theorem dX5_carryOut_37 : decode cX5_carryOut 37 = .ok (.astore 5, 2) := by decide +kernel
theorem dX5_carryOut_39 : decode cX5_carryOut 39 = .ok (.aload_n 0, 1) := by decide +kernel
theorem dX5_carryOut_40 : decode cX5_carryOut 40 = .ok (.getfield 12, 3) := by decide +kernel
theorem dX5_carryOut_43 : decode cX5_carryOut 43 = .ok (.getfield 66, 3) := by decide +kernel
theorem dX5_carryOut_46 : decode cX5_carryOut 46 = .ok (.getfield 93, 3) := by decide +kernel
theorem dX5_carryOut_49 : decode cX5_carryOut 49 = .ok (.astore 6, 2) := by decide +kernel
theorem dX5_carryOut_51 : decode cX5_carryOut 51 = .ok (.aload_n 0, 1) := by decide +kernel
theorem dX5_carryOut_52 : decode cX5_carryOut 52 = .ok (.getfield 12, 3) := by decide +kernel
theorem dX5_carryOut_55 : decode cX5_carryOut 55 = .ok (.getfield 66, 3) := by decide +kernel
theorem dX5_carryOut_58 : decode cX5_carryOut 58 = .ok (.getfield 70, 3) := by decide +kernel
theorem dX5_carryOut_61 : decode cX5_carryOut 61 = .ok (.istore 7, 2) := by decide +kernel
theorem dX5_carryOut_63 : decode cX5_carryOut 63 = .ok (.iload_n 1, 1) := by decide +kernel
theorem dX5_carryOut_64 : decode cX5_carryOut 64 = .ok (.tableswitch 335 98 119 #[104, 277, 335, 250, 335, 335, 335, 308, 335, 335, 223, 335, 335, 335, 192, 335, 335, 135, 335, 335, 335, 160], 104) := by decide +kernel
theorem dX5_carryOut_168 : decode cX5_carryOut 168 = .ok (.aload_n 0, 1) := by decide +kernel
theorem dX5_carryOut_169 : decode cX5_carryOut 169 = .ok (.getfield 44, 3) := by decide +kernel
theorem dX5_carryOut_172 : decode cX5_carryOut 172 = .ok (.aload 5, 2) := by decide +kernel
theorem dX5_carryOut_174 : decode cX5_carryOut 174 = .ok (.iload_n 2, 1) := by decide +kernel
theorem dX5_carryOut_175 : decode cX5_carryOut 175 = .ok (.aaload, 1) := by decide +kernel
theorem dX5_carryOut_176 : decode cX5_carryOut 176 = .ok (.aload 5, 2) := by decide +kernel
theorem dX5_carryOut_178 : decode cX5_carryOut 178 = .ok (.iload_n 3, 1) := by decide +kernel
theorem dX5_carryOut_179 : decode cX5_carryOut 179 = .ok (.aaload, 1) := by decide +kernel
theorem dX5_carryOut_180 : decode cX5_carryOut 180 = .ok (.iload 7, 2) := by decide +kernel
theorem dX5_carryOut_182 : decode cX5_carryOut 182 = .ok (.aload_n 0, 1) := by decide +kernel
theorem dX5_carryOut_183 : decode cX5_carryOut 183 = .ok (.getfield 48, 3) := by decide +kernel
theorem dX5_carryOut_186 : decode cX5_carryOut 186 = .ok (.invokevirtual 198, 3) := by decide +kernel
theorem dX5_carryOut_189 : decode cX5_carryOut 189 = .ok (.aload_n 0, 1) := by decide +kernel
theorem dX5_carryOut_190 : decode cX5_carryOut 190 = .ok (.aload 5, 2) := by decide +kernel
theorem dX5_carryOut_192 : decode cX5_carryOut 192 = .ok (.iload 4, 2) := by decide +kernel
theorem dX5_carryOut_194 : decode cX5_carryOut 194 = .ok (.aaload, 1) := by decide +kernel
theorem dX5_carryOut_195 : decode cX5_carryOut 195 = .ok (.invokevirtual 127, 3) := by decide +kernel
theorem dX5_carryOut_198 : decode cX5_carryOut 198 = .ok (.ireturn, 1) := by decide +kernel
theorem dX5_carryOut_199 : decode cX5_carryOut 199 = .ok (.aload 5, 2) := by decide +kernel
theorem dX5_carryOut_201 : decode cX5_carryOut 201 = .ok (.iload_n 2, 1) := by decide +kernel
theorem dX5_carryOut_202 : decode cX5_carryOut 202 = .ok (.aaload, 1) := by decide +kernel
theorem dX5_carryOut_203 : decode cX5_carryOut 203 = .ok (.aload 5, 2) := by decide +kernel
theorem dX5_carryOut_205 : decode cX5_carryOut 205 = .ok (.iload_n 3, 1) := by decide +kernel
theorem dX5_carryOut_206 : decode cX5_carryOut 206 = .ok (.aaload, 1) := by decide +kernel
theorem dX5_carryOut_207 : decode cX5_carryOut 207 = .ok (.aload_n 0, 1) := by decide +kernel
theorem dX5_carryOut_208 : decode cX5_carryOut 208 = .ok (.getfield 48, 3) := by decide +kernel
theorem dX5_carryOut_211 : decode cX5_carryOut 211 = .ok (.invokestatic 308, 3) := by decide +kernel
theorem dX5_carryOut_214 : decode cX5_carryOut 214 = .ok (.aload_n 0, 1) := by decide +kernel
theorem dX5_carryOut_215 : decode cX5_carryOut 215 = .ok (.aload 5, 2) := by decide +kernel
theorem dX5_carryOut_217 : decode cX5_carryOut 217 = .ok (.iload 4, 2) := by decide +kernel
theorem dX5_carryOut_219 : decode cX5_carryOut 219 = .ok (.aaload, 1) := by decide +kernel
theorem dX5_carryOut_220 : decode cX5_carryOut 220 = .ok (.invokevirtual 127, 3) := by decide +kernel
theorem dX5_carryOut_223 : decode cX5_carryOut 223 = .ok (.ireturn, 1) := by decide +kernel
theorem dX5_carryOut_224 : decode cX5_carryOut 224 = .ok (.aload_n 0, 1) := by decide +kernel
theorem dX5_carryOut_225 : decode cX5_carryOut 225 = .ok (.getfield 44, 3) := by decide +kernel
theorem dX5_carryOut_228 : decode cX5_carryOut 228 = .ok (.aload 5, 2) := by decide +kernel
theorem dX5_carryOut_230 : decode cX5_carryOut 230 = .ok (.iload_n 2, 1) := by decide +kernel
theorem dX5_carryOut_231 : decode cX5_carryOut 231 = .ok (.aaload, 1) := by decide +kernel
theorem dX5_carryOut_232 : decode cX5_carryOut 232 = .ok (.aload 5, 2) := by decide +kernel
theorem dX5_carryOut_234 : decode cX5_carryOut 234 = .ok (.iload_n 3, 1) := by decide +kernel
theorem dX5_carryOut_235 : decode cX5_carryOut 235 = .ok (.aaload, 1) := by decide +kernel
theorem dX5_carryOut_236 : decode cX5_carryOut 236 = .ok (.iconst 5, 1) := by decide +kernel
theorem dX5_carryOut_237 : decode cX5_carryOut 237 = .ok (.iload 7, 2) := by decide +kernel
theorem dX5_carryOut_239 : decode cX5_carryOut 239 = .ok (.aload_n 0, 1) := by decide +kernel
theorem dX5_carryOut_240 : decode cX5_carryOut 240 = .ok (.getfield 48, 3) := by decide +kernel
theorem dX5_carryOut_243 : decode cX5_carryOut 243 = .ok (.invokevirtual 312, 3) := by decide +kernel
theorem dX5_carryOut_246 : decode cX5_carryOut 246 = .ok (.aload_n 0, 1) := by decide +kernel
theorem dX5_carryOut_247 : decode cX5_carryOut 247 = .ok (.aload 5, 2) := by decide +kernel
theorem dX5_carryOut_249 : decode cX5_carryOut 249 = .ok (.iload 4, 2) := by decide +kernel
theorem dX5_carryOut_251 : decode cX5_carryOut 251 = .ok (.aaload, 1) := by decide +kernel
theorem dX5_carryOut_252 : decode cX5_carryOut 252 = .ok (.invokevirtual 127, 3) := by decide +kernel
theorem dX5_carryOut_255 : decode cX5_carryOut 255 = .ok (.ireturn, 1) := by decide +kernel
theorem dX5_carryOut_256 : decode cX5_carryOut 256 = .ok (.aload_n 0, 1) := by decide +kernel
theorem dX5_carryOut_257 : decode cX5_carryOut 257 = .ok (.getfield 44, 3) := by decide +kernel
theorem dX5_carryOut_260 : decode cX5_carryOut 260 = .ok (.aload 6, 2) := by decide +kernel
theorem dX5_carryOut_262 : decode cX5_carryOut 262 = .ok (.iload_n 2, 1) := by decide +kernel
theorem dX5_carryOut_263 : decode cX5_carryOut 263 = .ok (.aaload, 1) := by decide +kernel
theorem dX5_carryOut_264 : decode cX5_carryOut 264 = .ok (.aload 5, 2) := by decide +kernel
theorem dX5_carryOut_266 : decode cX5_carryOut 266 = .ok (.iload_n 3, 1) := by decide +kernel
theorem dX5_carryOut_267 : decode cX5_carryOut 267 = .ok (.aaload, 1) := by decide +kernel
theorem dX5_carryOut_268 : decode cX5_carryOut 268 = .ok (.iload 7, 2) := by decide +kernel
theorem dX5_carryOut_270 : decode cX5_carryOut 270 = .ok (.aload_n 0, 1) := by decide +kernel
theorem dX5_carryOut_271 : decode cX5_carryOut 271 = .ok (.getfield 48, 3) := by decide +kernel
theorem dX5_carryOut_274 : decode cX5_carryOut 274 = .ok (.invokevirtual 316, 3) := by decide +kernel
theorem dX5_carryOut_277 : decode cX5_carryOut 277 = .ok (.aload_n 0, 1) := by decide +kernel
theorem dX5_carryOut_278 : decode cX5_carryOut 278 = .ok (.aload 5, 2) := by decide +kernel
theorem dX5_carryOut_280 : decode cX5_carryOut 280 = .ok (.iload 4, 2) := by decide +kernel
theorem dX5_carryOut_282 : decode cX5_carryOut 282 = .ok (.aaload, 1) := by decide +kernel
theorem dX5_carryOut_283 : decode cX5_carryOut 283 = .ok (.invokevirtual 127, 3) := by decide +kernel
theorem dX5_carryOut_286 : decode cX5_carryOut 286 = .ok (.ireturn, 1) := by decide +kernel
theorem dX5_carryOut_287 : decode cX5_carryOut 287 = .ok (.aload_n 0, 1) := by decide +kernel
theorem dX5_carryOut_288 : decode cX5_carryOut 288 = .ok (.getfield 44, 3) := by decide +kernel
theorem dX5_carryOut_291 : decode cX5_carryOut 291 = .ok (.aload 6, 2) := by decide +kernel
theorem dX5_carryOut_293 : decode cX5_carryOut 293 = .ok (.iload_n 2, 1) := by decide +kernel
theorem dX5_carryOut_294 : decode cX5_carryOut 294 = .ok (.aaload, 1) := by decide +kernel
theorem dX5_carryOut_295 : decode cX5_carryOut 295 = .ok (.iload 7, 2) := by decide +kernel
theorem dX5_carryOut_297 : decode cX5_carryOut 297 = .ok (.aload_n 0, 1) := by decide +kernel
theorem dX5_carryOut_298 : decode cX5_carryOut 298 = .ok (.getfield 48, 3) := by decide +kernel
theorem dX5_carryOut_301 : decode cX5_carryOut 301 = .ok (.invokevirtual 319, 3) := by decide +kernel
theorem dX5_carryOut_304 : decode cX5_carryOut 304 = .ok (.aload_n 0, 1) := by decide +kernel
theorem dX5_carryOut_305 : decode cX5_carryOut 305 = .ok (.aload 5, 2) := by decide +kernel
theorem dX5_carryOut_307 : decode cX5_carryOut 307 = .ok (.iload 4, 2) := by decide +kernel
theorem dX5_carryOut_309 : decode cX5_carryOut 309 = .ok (.aaload, 1) := by decide +kernel
theorem dX5_carryOut_310 : decode cX5_carryOut 310 = .ok (.invokevirtual 127, 3) := by decide +kernel
theorem dX5_carryOut_313 : decode cX5_carryOut 313 = .ok (.ireturn, 1) := by decide +kernel
theorem dX5_carryOut_314 : decode cX5_carryOut 314 = .ok (.aload_n 0, 1) := by decide +kernel
theorem dX5_carryOut_315 : decode cX5_carryOut 315 = .ok (.getfield 44, 3) := by decide +kernel
theorem dX5_carryOut_318 : decode cX5_carryOut 318 = .ok (.aload 5, 2) := by decide +kernel
theorem dX5_carryOut_320 : decode cX5_carryOut 320 = .ok (.iload_n 2, 1) := by decide +kernel
theorem dX5_carryOut_321 : decode cX5_carryOut 321 = .ok (.aaload, 1) := by decide +kernel
theorem dX5_carryOut_322 : decode cX5_carryOut 322 = .ok (.iload 7, 2) := by decide +kernel
theorem dX5_carryOut_324 : decode cX5_carryOut 324 = .ok (.aload_n 0, 1) := by decide +kernel
theorem dX5_carryOut_325 : decode cX5_carryOut 325 = .ok (.getfield 48, 3) := by decide +kernel
theorem dX5_carryOut_328 : decode cX5_carryOut 328 = .ok (.invokevirtual 322, 3) := by decide +kernel
theorem dX5_carryOut_331 : decode cX5_carryOut 331 = .ok (.aload_n 0, 1) := by decide +kernel
theorem dX5_carryOut_332 : decode cX5_carryOut 332 = .ok (.aload 6, 2) := by decide +kernel
theorem dX5_carryOut_334 : decode cX5_carryOut 334 = .ok (.iload 4, 2) := by decide +kernel
theorem dX5_carryOut_336 : decode cX5_carryOut 336 = .ok (.aaload, 1) := by decide +kernel
theorem dX5_carryOut_337 : decode cX5_carryOut 337 = .ok (.invokevirtual 127, 3) := by decide +kernel
theorem dX5_carryOut_340 : decode cX5_carryOut 340 = .ok (.ireturn, 1) := by decide +kernel
theorem dX5_carryOut_341 : decode cX5_carryOut 341 = .ok (.aload_n 0, 1) := by decide +kernel
theorem dX5_carryOut_342 : decode cX5_carryOut 342 = .ok (.getfield 44, 3) := by decide +kernel
theorem dX5_carryOut_345 : decode cX5_carryOut 345 = .ok (.aload 6, 2) := by decide +kernel
theorem dX5_carryOut_347 : decode cX5_carryOut 347 = .ok (.iload_n 2, 1) := by decide +kernel
theorem dX5_carryOut_348 : decode cX5_carryOut 348 = .ok (.aaload, 1) := by decide +kernel
theorem dX5_carryOut_349 : decode cX5_carryOut 349 = .ok (.aload 6, 2) := by decide +kernel
theorem dX5_carryOut_351 : decode cX5_carryOut 351 = .ok (.iload_n 3, 1) := by decide +kernel
theorem dX5_carryOut_352 : decode cX5_carryOut 352 = .ok (.aaload, 1) := by decide +kernel
theorem dX5_carryOut_353 : decode cX5_carryOut 353 = .ok (.iload 7, 2) := by decide +kernel
theorem dX5_carryOut_355 : decode cX5_carryOut 355 = .ok (.aload_n 0, 1) := by decide +kernel
theorem dX5_carryOut_356 : decode cX5_carryOut 356 = .ok (.getfield 48, 3) := by decide +kernel
theorem dX5_carryOut_359 : decode cX5_carryOut 359 = .ok (.invokevirtual 205, 3) := by decide +kernel
theorem dX5_carryOut_362 : decode cX5_carryOut 362 = .ok (.aload_n 0, 1) := by decide +kernel
theorem dX5_carryOut_363 : decode cX5_carryOut 363 = .ok (.aload 6, 2) := by decide +kernel
theorem dX5_carryOut_365 : decode cX5_carryOut 365 = .ok (.iload 4, 2) := by decide +kernel
theorem dX5_carryOut_367 : decode cX5_carryOut 367 = .ok (.aaload, 1) := by decide +kernel
theorem dX5_carryOut_368 : decode cX5_carryOut 368 = .ok (.invokevirtual 127, 3) := by decide +kernel
theorem dX5_carryOut_371 : decode cX5_carryOut 371 = .ok (.ireturn, 1) := by decide +kernel
theorem dX5_carryOut_372 : decode cX5_carryOut 372 = .ok (.aload_n 0, 1) := by decide +kernel
theorem dX5_carryOut_373 : decode cX5_carryOut 373 = .ok (.getfield 44, 3) := by decide +kernel
theorem dX5_carryOut_376 : decode cX5_carryOut 376 = .ok (.aload 6, 2) := by decide +kernel
theorem dX5_carryOut_378 : decode cX5_carryOut 378 = .ok (.iload_n 2, 1) := by decide +kernel
theorem dX5_carryOut_379 : decode cX5_carryOut 379 = .ok (.aaload, 1) := by decide +kernel
theorem dX5_carryOut_380 : decode cX5_carryOut 380 = .ok (.iload 7, 2) := by decide +kernel
theorem dX5_carryOut_382 : decode cX5_carryOut 382 = .ok (.aload_n 0, 1) := by decide +kernel
theorem dX5_carryOut_383 : decode cX5_carryOut 383 = .ok (.getfield 48, 3) := by decide +kernel
theorem dX5_carryOut_386 : decode cX5_carryOut 386 = .ok (.invokevirtual 325, 3) := by decide +kernel
theorem dX5_carryOut_389 : decode cX5_carryOut 389 = .ok (.aload_n 0, 1) := by decide +kernel
theorem dX5_carryOut_390 : decode cX5_carryOut 390 = .ok (.aload 6, 2) := by decide +kernel
theorem dX5_carryOut_392 : decode cX5_carryOut 392 = .ok (.iload 4, 2) := by decide +kernel
theorem dX5_carryOut_394 : decode cX5_carryOut 394 = .ok (.aaload, 1) := by decide +kernel
theorem dX5_carryOut_395 : decode cX5_carryOut 395 = .ok (.invokevirtual 127, 3) := by decide +kernel
theorem dX5_carryOut_398 : decode cX5_carryOut 398 = .ok (.ireturn, 1) := by decide +kernel
theorem dX5_carryOut_399 : decode cX5_carryOut 399 = .ok (.iconst (-1), 1) := by decide +kernel
theorem dX5_carryOut_400 : decode cX5_carryOut 400 = .ok (.ireturn, 1) := by decide +kernel
theorem dX5_wayDiffers_0 : decode cX5_wayDiffers 0 = .ok (.aload_n 0, 1) := by decide +kernel
theorem dX5_wayDiffers_1 : decode cX5_wayDiffers 1 = .ok (.getfield 44, 3) := by decide +kernel
theorem dX5_wayDiffers_4 : decode cX5_wayDiffers 4 = .ok (.aload_n 0, 1) := by decide +kernel
theorem dX5_wayDiffers_5 : decode cX5_wayDiffers 5 = .ok (.getfield 12, 3) := by decide +kernel
theorem dX5_wayDiffers_8 : decode cX5_wayDiffers 8 = .ok (.getfield 66, 3) := by decide +kernel
theorem dX5_wayDiffers_11 : decode cX5_wayDiffers 11 = .ok (.getfield 85, 3) := by decide +kernel
theorem dX5_wayDiffers_14 : decode cX5_wayDiffers 14 = .ok (.iload_n 1, 1) := by decide +kernel
theorem dX5_wayDiffers_15 : decode cX5_wayDiffers 15 = .ok (.aaload, 1) := by decide +kernel
theorem dX5_wayDiffers_16 : decode cX5_wayDiffers 16 = .ok (.aload_n 0, 1) := by decide +kernel
theorem dX5_wayDiffers_17 : decode cX5_wayDiffers 17 = .ok (.getfield 12, 3) := by decide +kernel
theorem dX5_wayDiffers_20 : decode cX5_wayDiffers 20 = .ok (.getfield 66, 3) := by decide +kernel
theorem dX5_wayDiffers_23 : decode cX5_wayDiffers 23 = .ok (.getfield 85, 3) := by decide +kernel
theorem dX5_wayDiffers_26 : decode cX5_wayDiffers 26 = .ok (.iload_n 2, 1) := by decide +kernel
theorem dX5_wayDiffers_27 : decode cX5_wayDiffers 27 = .ok (.aaload, 1) := by decide +kernel
theorem dX5_wayDiffers_28 : decode cX5_wayDiffers 28 = .ok (.iload_n 3, 1) := by decide +kernel
theorem dX5_wayDiffers_29 : decode cX5_wayDiffers 29 = .ok (.aload_n 0, 1) := by decide +kernel
theorem dX5_wayDiffers_30 : decode cX5_wayDiffers 30 = .ok (.getfield 12, 3) := by decide +kernel
theorem dX5_wayDiffers_33 : decode cX5_wayDiffers 33 = .ok (.getfield 66, 3) := by decide +kernel
theorem dX5_wayDiffers_36 : decode cX5_wayDiffers 36 = .ok (.getfield 70, 3) := by decide +kernel
theorem dX5_wayDiffers_39 : decode cX5_wayDiffers 39 = .ok (.aload_n 0, 1) := by decide +kernel
theorem dX5_wayDiffers_40 : decode cX5_wayDiffers 40 = .ok (.getfield 48, 3) := by decide +kernel
theorem dX5_wayDiffers_43 : decode cX5_wayDiffers 43 = .ok (.invokevirtual 312, 3) := by decide +kernel
theorem dX5_wayDiffers_46 : decode cX5_wayDiffers 46 = .ok (.aload_n 0, 1) := by decide +kernel
theorem dX5_wayDiffers_47 : decode cX5_wayDiffers 47 = .ok (.getfield 48, 3) := by decide +kernel
theorem dX5_wayDiffers_50 : decode cX5_wayDiffers 50 = .ok (.aload_n 0, 1) := by decide +kernel
theorem dX5_wayDiffers_51 : decode cX5_wayDiffers 51 = .ok (.getfield 52, 3) := by decide +kernel
theorem dX5_wayDiffers_54 : decode cX5_wayDiffers 54 = .ok (.invokestatic 208, 3) := by decide +kernel
theorem dX5_wayDiffers_57 : decode cX5_wayDiffers 57 = .ok (.ireturn, 1) := by decide +kernel
theorem dX5_hashCoefficients_0 : decode cX5_hashCoefficients 0 = .ok (.lload_n 0, 1) := by decide +kernel
theorem dX5_hashCoefficients_1 : decode cX5_hashCoefficients 1 = .ok (.lstore_n 3, 1) := by decide +kernel
theorem dX5_hashCoefficients_2 : decode cX5_hashCoefficients 2 = .ok (.iconst 2, 1) := by decide +kernel
theorem dX5_hashCoefficients_3 : decode cX5_hashCoefficients 3 = .ok (.istore 5, 2) := by decide +kernel
theorem dX5_hashCoefficients_5 : decode cX5_hashCoefficients 5 = .ok (.iload 5, 2) := by decide +kernel
theorem dX5_hashCoefficients_7 : decode cX5_hashCoefficients 7 = .ok (.bipush 6, 2) := by decide +kernel
theorem dX5_hashCoefficients_9 : decode cX5_hashCoefficients 9 = .ok (.if_icmp .gt 21, 3) := by decide +kernel
theorem dX5_hashCoefficients_12 : decode cX5_hashCoefficients 12 = .ok (.ldc2_w 253, 3) := by decide +kernel
theorem dX5_hashCoefficients_15 : decode cX5_hashCoefficients 15 = .ok (.lload_n 3, 1) := by decide +kernel
theorem dX5_hashCoefficients_16 : decode cX5_hashCoefficients 16 = .ok (.lmul, 1) := by decide +kernel
theorem dX5_hashCoefficients_17 : decode cX5_hashCoefficients 17 = .ok (.aload_n 2, 1) := by decide +kernel
theorem dX5_hashCoefficients_18 : decode cX5_hashCoefficients 18 = .ok (.iload 5, 2) := by decide +kernel
theorem dX5_hashCoefficients_20 : decode cX5_hashCoefficients 20 = .ok (.iaload, 1) := by decide +kernel
theorem dX5_hashCoefficients_21 : decode cX5_hashCoefficients 21 = .ok (.i2l, 1) := by decide +kernel
theorem dX5_hashCoefficients_22 : decode cX5_hashCoefficients 22 = .ok (.ladd, 1) := by decide +kernel
theorem dX5_hashCoefficients_23 : decode cX5_hashCoefficients 23 = .ok (.lstore_n 3, 1) := by decide +kernel
theorem dX5_hashCoefficients_24 : decode cX5_hashCoefficients 24 = .ok (.iinc 5 1, 3) := by decide +kernel
theorem dX5_hashCoefficients_27 : decode cX5_hashCoefficients 27 = .ok (.goto (-22), 3) := by decide +kernel
theorem dX5_hashCoefficients_30 : decode cX5_hashCoefficients 30 = .ok (.lload_n 3, 1) := by decide +kernel
theorem dX5_hashCoefficients_31 : decode cX5_hashCoefficients 31 = .ok (.lreturn, 1) := by decide +kernel
theorem dX5_hashLooks_0 : decode cX5_hashLooks 0 = .ok (.ldc2_w 253, 3) := by decide +kernel
theorem dX5_hashLooks_3 : decode cX5_hashLooks 3 = .ok (.lload_n 1, 1) := by decide +kernel
theorem dX5_hashLooks_4 : decode cX5_hashLooks 4 = .ok (.lmul, 1) := by decide +kernel
theorem dX5_hashLooks_5 : decode cX5_hashLooks 5 = .ok (.aload_n 0, 1) := by decide +kernel
theorem dX5_hashLooks_6 : decode cX5_hashLooks 6 = .ok (.iconst 0, 1) := by decide +kernel
theorem dX5_hashLooks_7 : decode cX5_hashLooks 7 = .ok (.iload_n 3, 1) := by decide +kernel
theorem dX5_hashLooks_8 : decode cX5_hashLooks 8 = .ok (.iconst 3, 1) := by decide +kernel
theorem dX5_hashLooks_9 : decode cX5_hashLooks 9 = .ok (.invokevirtual 328, 3) := by decide +kernel
theorem dX5_hashLooks_12 : decode cX5_hashLooks 12 = .ok (.i2l, 1) := by decide +kernel
theorem dX5_hashLooks_13 : decode cX5_hashLooks 13 = .ok (.ladd, 1) := by decide +kernel
theorem dX5_hashLooks_14 : decode cX5_hashLooks 14 = .ok (.lstore 4, 2) := by decide +kernel
theorem dX5_hashLooks_16 : decode cX5_hashLooks 16 = .ok (.ldc2_w 253, 3) := by decide +kernel
theorem dX5_hashLooks_19 : decode cX5_hashLooks 19 = .ok (.lload 4, 2) := by decide +kernel
theorem dX5_hashLooks_21 : decode cX5_hashLooks 21 = .ok (.lmul, 1) := by decide +kernel
theorem dX5_hashLooks_22 : decode cX5_hashLooks 22 = .ok (.aload_n 0, 1) := by decide +kernel
theorem dX5_hashLooks_23 : decode cX5_hashLooks 23 = .ok (.iconst 1, 1) := by decide +kernel
theorem dX5_hashLooks_24 : decode cX5_hashLooks 24 = .ok (.iload_n 3, 1) := by decide +kernel
theorem dX5_hashLooks_25 : decode cX5_hashLooks 25 = .ok (.iconst 3, 1) := by decide +kernel
theorem dX5_hashLooks_26 : decode cX5_hashLooks 26 = .ok (.invokevirtual 328, 3) := by decide +kernel
theorem dX5_hashLooks_29 : decode cX5_hashLooks 29 = .ok (.i2l, 1) := by decide +kernel
theorem dX5_hashLooks_30 : decode cX5_hashLooks 30 = .ok (.ladd, 1) := by decide +kernel
theorem dX5_hashLooks_31 : decode cX5_hashLooks 31 = .ok (.lstore 4, 2) := by decide +kernel
theorem dX5_hashLooks_33 : decode cX5_hashLooks 33 = .ok (.ldc2_w 253, 3) := by decide +kernel
theorem dX5_hashLooks_36 : decode cX5_hashLooks 36 = .ok (.lload 4, 2) := by decide +kernel
theorem dX5_hashLooks_38 : decode cX5_hashLooks 38 = .ok (.lmul, 1) := by decide +kernel
theorem dX5_hashLooks_39 : decode cX5_hashLooks 39 = .ok (.aload_n 0, 1) := by decide +kernel
theorem dX5_hashLooks_40 : decode cX5_hashLooks 40 = .ok (.iload_n 3, 1) := by decide +kernel
theorem dX5_hashLooks_41 : decode cX5_hashLooks 41 = .ok (.iconst 0, 1) := by decide +kernel
theorem dX5_hashLooks_42 : decode cX5_hashLooks 42 = .ok (.invokevirtual 331, 3) := by decide +kernel
theorem dX5_hashLooks_45 : decode cX5_hashLooks 45 = .ok (.i2l, 1) := by decide +kernel
theorem dX5_hashLooks_46 : decode cX5_hashLooks 46 = .ok (.ladd, 1) := by decide +kernel
theorem dX5_hashLooks_47 : decode cX5_hashLooks 47 = .ok (.lstore 4, 2) := by decide +kernel
theorem dX5_hashLooks_49 : decode cX5_hashLooks 49 = .ok (.ldc2_w 253, 3) := by decide +kernel
theorem dX5_hashLooks_52 : decode cX5_hashLooks 52 = .ok (.lload 4, 2) := by decide +kernel
theorem dX5_hashLooks_54 : decode cX5_hashLooks 54 = .ok (.lmul, 1) := by decide +kernel
theorem dX5_hashLooks_55 : decode cX5_hashLooks 55 = .ok (.aload_n 0, 1) := by decide +kernel
theorem dX5_hashLooks_56 : decode cX5_hashLooks 56 = .ok (.iload_n 3, 1) := by decide +kernel
theorem dX5_hashLooks_57 : decode cX5_hashLooks 57 = .ok (.iconst 0, 1) := by decide +kernel
theorem dX5_hashLooks_58 : decode cX5_hashLooks 58 = .ok (.invokevirtual 334, 3) := by decide +kernel
theorem dX5_hashLooks_61 : decode cX5_hashLooks 61 = .ok (.i2l, 1) := by decide +kernel
theorem dX5_hashLooks_62 : decode cX5_hashLooks 62 = .ok (.ladd, 1) := by decide +kernel
theorem dX5_hashLooks_63 : decode cX5_hashLooks 63 = .ok (.lstore 4, 2) := by decide +kernel
theorem dX5_hashLooks_65 : decode cX5_hashLooks 65 = .ok (.aload_n 0, 1) := by decide +kernel
theorem dX5_hashLooks_66 : decode cX5_hashLooks 66 = .ok (.getfield 44, 3) := by decide +kernel
theorem dX5_hashLooks_69 : decode cX5_hashLooks 69 = .ok (.aload_n 0, 1) := by decide +kernel
theorem dX5_hashLooks_70 : decode cX5_hashLooks 70 = .ok (.getfield 12, 3) := by decide +kernel
theorem dX5_hashLooks_73 : decode cX5_hashLooks 73 = .ok (.getfield 66, 3) := by decide +kernel
theorem dX5_hashLooks_76 : decode cX5_hashLooks 76 = .ok (.getfield 85, 3) := by decide +kernel
theorem dX5_hashLooks_79 : decode cX5_hashLooks 79 = .ok (.iconst 0, 1) := by decide +kernel
theorem dX5_hashLooks_80 : decode cX5_hashLooks 80 = .ok (.aaload, 1) := by decide +kernel
theorem dX5_hashLooks_81 : decode cX5_hashLooks 81 = .ok (.aload_n 0, 1) := by decide +kernel
theorem dX5_hashLooks_82 : decode cX5_hashLooks 82 = .ok (.getfield 12, 3) := by decide +kernel
theorem dX5_hashLooks_85 : decode cX5_hashLooks 85 = .ok (.getfield 66, 3) := by decide +kernel
theorem dX5_hashLooks_88 : decode cX5_hashLooks 88 = .ok (.getfield 85, 3) := by decide +kernel
theorem dX5_hashLooks_91 : decode cX5_hashLooks 91 = .ok (.iload_n 3, 1) := by decide +kernel
theorem dX5_hashLooks_92 : decode cX5_hashLooks 92 = .ok (.aaload, 1) := by decide +kernel
theorem dX5_hashLooks_93 : decode cX5_hashLooks 93 = .ok (.aload_n 0, 1) := by decide +kernel
theorem dX5_hashLooks_94 : decode cX5_hashLooks 94 = .ok (.getfield 12, 3) := by decide +kernel
theorem dX5_hashLooks_97 : decode cX5_hashLooks 97 = .ok (.getfield 66, 3) := by decide +kernel
theorem dX5_hashLooks_100 : decode cX5_hashLooks 100 = .ok (.getfield 70, 3) := by decide +kernel
theorem dX5_hashLooks_103 : decode cX5_hashLooks 103 = .ok (.aload_n 0, 1) := by decide +kernel
theorem dX5_hashLooks_104 : decode cX5_hashLooks 104 = .ok (.getfield 52, 3) := by decide +kernel
theorem dX5_hashLooks_107 : decode cX5_hashLooks 107 = .ok (.invokevirtual 214, 3) := by decide +kernel
theorem dX5_hashLooks_110 : decode cX5_hashLooks 110 = .ok (.iconst 2, 1) := by decide +kernel
theorem dX5_hashLooks_111 : decode cX5_hashLooks 111 = .ok (.istore 6, 2) := by decide +kernel
theorem dX5_hashLooks_113 : decode cX5_hashLooks 113 = .ok (.iload 6, 2) := by decide +kernel
theorem dX5_hashLooks_115 : decode cX5_hashLooks 115 = .ok (.iconst 5, 1) := by decide +kernel
theorem dX5_hashLooks_116 : decode cX5_hashLooks 116 = .ok (.if_icmp .gt 27, 3) := by decide +kernel
theorem dX5_hashLooks_119 : decode cX5_hashLooks 119 = .ok (.ldc2_w 253, 3) := by decide +kernel
theorem dX5_hashLooks_122 : decode cX5_hashLooks 122 = .ok (.lload 4, 2) := by decide +kernel
theorem dX5_hashLooks_124 : decode cX5_hashLooks 124 = .ok (.lmul, 1) := by decide +kernel
theorem dX5_hashLooks_125 : decode cX5_hashLooks 125 = .ok (.aload_n 0, 1) := by decide +kernel
theorem dX5_hashLooks_126 : decode cX5_hashLooks 126 = .ok (.iconst 0, 1) := by decide +kernel
theorem dX5_hashLooks_127 : decode cX5_hashLooks 127 = .ok (.iload_n 3, 1) := by decide +kernel
theorem dX5_hashLooks_128 : decode cX5_hashLooks 128 = .ok (.iload 6, 2) := by decide +kernel
theorem dX5_hashLooks_130 : decode cX5_hashLooks 130 = .ok (.invokevirtual 217, 3) := by decide +kernel
theorem dX5_hashLooks_133 : decode cX5_hashLooks 133 = .ok (.i2l, 1) := by decide +kernel
theorem dX5_hashLooks_134 : decode cX5_hashLooks 134 = .ok (.ladd, 1) := by decide +kernel
theorem dX5_hashLooks_135 : decode cX5_hashLooks 135 = .ok (.lstore 4, 2) := by decide +kernel
theorem dX5_hashLooks_137 : decode cX5_hashLooks 137 = .ok (.iinc 6 1, 3) := by decide +kernel
theorem dX5_hashLooks_140 : decode cX5_hashLooks 140 = .ok (.goto (-27), 3) := by decide +kernel
theorem dX5_hashLooks_143 : decode cX5_hashLooks 143 = .ok (.lload 4, 2) := by decide +kernel
theorem dX5_hashLooks_145 : decode cX5_hashLooks 145 = .ok (.lreturn, 1) := by decide +kernel
theorem dX5_bitsOf_0 : decode cX5_bitsOf 0 = .ok (.dload_n 0, 1) := by decide +kernel
theorem dX5_bitsOf_1 : decode cX5_bitsOf 1 = .ok (.dconst 0, 1) := by decide +kernel
theorem dX5_bitsOf_2 : decode cX5_bitsOf 2 = .ok (.dcmp .g, 1) := by decide +kernel
theorem dX5_bitsOf_3 : decode cX5_bitsOf 3 = .ok (.ifCond .gt 5, 3) := by decide +kernel
theorem dX5_bitsOf_6 : decode cX5_bitsOf 6 = .ok (.lconst 0, 1) := by decide +kernel
theorem dX5_bitsOf_7 : decode cX5_bitsOf 7 = .ok (.lreturn, 1) := by decide +kernel
theorem dX5_bitsOf_8 : decode cX5_bitsOf 8 = .ok (.dload_n 0, 1) := by decide +kernel
theorem dX5_bitsOf_9 : decode cX5_bitsOf 9 = .ok (.dstore_n 2, 1) := by decide +kernel
theorem dX5_bitsOf_10 : decode cX5_bitsOf 10 = .ok (.iconst 0, 1) := by decide +kernel
theorem dX5_bitsOf_11 : decode cX5_bitsOf 11 = .ok (.istore 4, 2) := by decide +kernel
theorem dX5_bitsOf_13 : decode cX5_bitsOf 13 = .ok (.dload_n 2, 1) := by decide +kernel
theorem dX5_bitsOf_14 : decode cX5_bitsOf 14 = .ok (.dconst 1, 1) := by decide +kernel
theorem dX5_bitsOf_15 : decode cX5_bitsOf 15 = .ok (.dcmp .g, 1) := by decide +kernel
theorem dX5_bitsOf_16 : decode cX5_bitsOf 16 = .ok (.ifCond .ge 23, 3) := by decide +kernel
theorem dX5_bitsOf_19 : decode cX5_bitsOf 19 = .ok (.iload 4, 2) := by decide +kernel
theorem dX5_bitsOf_21 : decode cX5_bitsOf 21 = .ok (.sipush 1022, 3) := by decide +kernel
theorem dX5_bitsOf_24 : decode cX5_bitsOf 24 = .ok (.if_icmp .ge 15, 3) := by decide +kernel
theorem dX5_bitsOf_27 : decode cX5_bitsOf 27 = .ok (.dload_n 2, 1) := by decide +kernel
theorem dX5_bitsOf_28 : decode cX5_bitsOf 28 = .ok (.ldc2_w 337, 3) := by decide +kernel
theorem dX5_bitsOf_31 : decode cX5_bitsOf 31 = .ok (.dmul, 1) := by decide +kernel
theorem dX5_bitsOf_32 : decode cX5_bitsOf 32 = .ok (.dstore_n 2, 1) := by decide +kernel
theorem dX5_bitsOf_33 : decode cX5_bitsOf 33 = .ok (.iinc 4 1, 3) := by decide +kernel
theorem dX5_bitsOf_36 : decode cX5_bitsOf 36 = .ok (.goto (-23), 3) := by decide +kernel
theorem dX5_bitsOf_39 : decode cX5_bitsOf 39 = .ok (.sipush 1023, 3) := by decide +kernel
theorem dX5_bitsOf_42 : decode cX5_bitsOf 42 = .ok (.iload 4, 2) := by decide +kernel
theorem dX5_bitsOf_44 : decode cX5_bitsOf 44 = .ok (.isub, 1) := by decide +kernel
theorem dX5_bitsOf_45 : decode cX5_bitsOf 45 = .ok (.i2l, 1) := by decide +kernel
theorem dX5_bitsOf_46 : decode cX5_bitsOf 46 = .ok (.lstore 5, 2) := by decide +kernel
theorem dX5_bitsOf_48 : decode cX5_bitsOf 48 = .ok (.dload_n 2, 1) := by decide +kernel
theorem dX5_bitsOf_49 : decode cX5_bitsOf 49 = .ok (.dconst 1, 1) := by decide +kernel
theorem dX5_bitsOf_50 : decode cX5_bitsOf 50 = .ok (.dsub, 1) := by decide +kernel
theorem dX5_bitsOf_51 : decode cX5_bitsOf 51 = .ok (.ldc2_w 339, 3) := by decide +kernel
theorem dX5_bitsOf_54 : decode cX5_bitsOf 54 = .ok (.dmul, 1) := by decide +kernel
theorem dX5_bitsOf_55 : decode cX5_bitsOf 55 = .ok (.d2l, 1) := by decide +kernel
theorem dX5_bitsOf_56 : decode cX5_bitsOf 56 = .ok (.lstore 7, 2) := by decide +kernel
theorem dX5_bitsOf_58 : decode cX5_bitsOf 58 = .ok (.lload 5, 2) := by decide +kernel
theorem dX5_bitsOf_60 : decode cX5_bitsOf 60 = .ok (.bipush 52, 2) := by decide +kernel
theorem dX5_bitsOf_62 : decode cX5_bitsOf 62 = .ok (.lshl, 1) := by decide +kernel
theorem dX5_bitsOf_63 : decode cX5_bitsOf 63 = .ok (.lload 7, 2) := by decide +kernel
theorem dX5_bitsOf_65 : decode cX5_bitsOf 65 = .ok (.ladd, 1) := by decide +kernel
theorem dX5_bitsOf_66 : decode cX5_bitsOf 66 = .ok (.lreturn, 1) := by decide +kernel
theorem dX6_init_0 : decode cX6_init 0 = .ok (.aload_n 0, 1) := by decide +kernel
theorem dX6_init_1 : decode cX6_init 1 = .ok (.invokespecial 1, 3) := by decide +kernel
theorem dX6_init_4 : decode cX6_init 4 = .ok (.aload_n 0, 1) := by decide +kernel
theorem dX6_init_5 : decode cX6_init 5 = .ok (.bipush 89, 2) := by decide +kernel
theorem dX6_init_7 : decode cX6_init 7 = .ok (.newarray .int, 2) := by decide +kernel
theorem dX6_init_9 : decode cX6_init 9 = .ok (.putfield 7, 3) := by decide +kernel
theorem dX6_init_12 : decode cX6_init 12 = .ok (.aload_n 0, 1) := by decide +kernel
theorem dX6_init_13 : decode cX6_init 13 = .ok (.sipush 534, 3) := by decide +kernel
theorem dX6_init_16 : decode cX6_init 16 = .ok (.newarray .int, 2) := by decide +kernel
theorem dX6_init_18 : decode cX6_init 18 = .ok (.putfield 13, 3) := by decide +kernel
theorem dX6_init_21 : decode cX6_init 21 = .ok (.aload_n 0, 1) := by decide +kernel
theorem dX6_init_22 : decode cX6_init 22 = .ok (.sipush 178, 3) := by decide +kernel
theorem dX6_init_25 : decode cX6_init 25 = .ok (.newarray .int, 2) := by decide +kernel
theorem dX6_init_27 : decode cX6_init 27 = .ok (.putfield 16, 3) := by decide +kernel
theorem dX6_init_30 : decode cX6_init 30 = .ok (.aload_n 0, 1) := by decide +kernel
theorem dX6_init_31 : decode cX6_init 31 = .ok (.iconst 2, 1) := by decide +kernel
theorem dX6_init_32 : decode cX6_init 32 = .ok (.newarray .int, 2) := by decide +kernel
theorem dX6_init_34 : decode cX6_init 34 = .ok (.putfield 19, 3) := by decide +kernel
theorem dX6_init_37 : decode cX6_init 37 = .ok (.aload_n 0, 1) := by decide +kernel
theorem dX6_init_38 : decode cX6_init 38 = .ok (.sipush 140, 3) := by decide +kernel
theorem dX6_init_41 : decode cX6_init 41 = .ok (.newarray .int, 2) := by decide +kernel
theorem dX6_init_43 : decode cX6_init 43 = .ok (.putfield 22, 3) := by decide +kernel
theorem dX6_init_46 : decode cX6_init 46 = .ok (.aload_n 0, 1) := by decide +kernel
theorem dX6_init_47 : decode cX6_init 47 = .ok (.bipush 60, 2) := by decide +kernel
theorem dX6_init_49 : decode cX6_init 49 = .ok (.newarray .int, 2) := by decide +kernel
theorem dX6_init_51 : decode cX6_init 51 = .ok (.putfield 25, 3) := by decide +kernel
theorem dX6_init_54 : decode cX6_init 54 = .ok (.aload_n 0, 1) := by decide +kernel
theorem dX6_init_55 : decode cX6_init 55 = .ok (.bipush 52, 2) := by decide +kernel
theorem dX6_init_57 : decode cX6_init 57 = .ok (.newarray .int, 2) := by decide +kernel
theorem dX6_init_59 : decode cX6_init 59 = .ok (.putfield 28, 3) := by decide +kernel
theorem dX6_init_62 : decode cX6_init 62 = .ok (.aload_n 0, 1) := by decide +kernel
theorem dX6_init_63 : decode cX6_init 63 = .ok (.getfield 7, 3) := by decide +kernel
theorem dX6_init_66 : decode cX6_init 66 = .ok (.iconst 0, 1) := by decide +kernel
theorem dX6_init_67 : decode cX6_init 67 = .ok (.iconst 5, 1) := by decide +kernel
theorem dX6_init_68 : decode cX6_init 68 = .ok (.iastore, 1) := by decide +kernel
theorem dX6_init_69 : decode cX6_init 69 = .ok (.aload_n 0, 1) := by decide +kernel
theorem dX6_init_70 : decode cX6_init 70 = .ok (.getfield 7, 3) := by decide +kernel
theorem dX6_init_73 : decode cX6_init 73 = .ok (.iconst 1, 1) := by decide +kernel
theorem dX6_init_74 : decode cX6_init 74 = .ok (.sipush 500, 3) := by decide +kernel
theorem dX6_init_77 : decode cX6_init 77 = .ok (.iastore, 1) := by decide +kernel
theorem dX6_init_78 : decode cX6_init 78 = .ok (.iconst 0, 1) := by decide +kernel
theorem dX6_init_79 : decode cX6_init 79 = .ok (.istore_n 1, 1) := by decide +kernel
theorem dX6_init_80 : decode cX6_init 80 = .ok (.iload_n 1, 1) := by decide +kernel
theorem dX6_init_81 : decode cX6_init 81 = .ok (.bipush 6, 2) := by decide +kernel
theorem dX6_init_83 : decode cX6_init 83 = .ok (.if_icmp .ge 24, 3) := by decide +kernel
theorem dX6_init_86 : decode cX6_init 86 = .ok (.aload_n 0, 1) := by decide +kernel
theorem dX6_init_87 : decode cX6_init 87 = .ok (.getfield 7, 3) := by decide +kernel
theorem dX6_init_90 : decode cX6_init 90 = .ok (.bipush 47, 2) := by decide +kernel
theorem dX6_init_92 : decode cX6_init 92 = .ok (.bipush 7, 2) := by decide +kernel
theorem dX6_init_94 : decode cX6_init 94 = .ok (.iload_n 1, 1) := by decide +kernel
theorem dX6_init_95 : decode cX6_init 95 = .ok (.imul, 1) := by decide +kernel
theorem dX6_init_96 : decode cX6_init 96 = .ok (.iadd, 1) := by decide +kernel
theorem dX6_init_97 : decode cX6_init 97 = .ok (.iconst 1, 1) := by decide +kernel
theorem dX6_init_98 : decode cX6_init 98 = .ok (.iadd, 1) := by decide +kernel
theorem dX6_init_99 : decode cX6_init 99 = .ok (.iconst 1, 1) := by decide +kernel
theorem dX6_init_100 : decode cX6_init 100 = .ok (.iastore, 1) := by decide +kernel
theorem dX6_init_101 : decode cX6_init 101 = .ok (.iinc 1 1, 3) := by decide +kernel
theorem dX6_init_104 : decode cX6_init 104 = .ok (.goto (-24), 3) := by decide +kernel
theorem dX6_init_107 : decode cX6_init 107 = .ok (.return_, 1) := by decide +kernel
theorem dX6_thrown_0 : decode cX6_thrown 0 = .ok (.aload_n 0, 1) := by decide +kernel
theorem dX6_thrown_1 : decode cX6_thrown 1 = .ok (.getfield 31, 3) := by decide +kernel
theorem dX6_thrown_4 : decode cX6_thrown 4 = .ok (.ireturn, 1) := by decide +kernel
theorem dX6_within_0 : decode cX6_within 0 = .ok (.iload_n 0, 1) := by decide +kernel
theorem dX6_within_1 : decode cX6_within 1 = .ok (.iload_n 1, 1) := by decide +kernel
theorem dX6_within_2 : decode cX6_within 2 = .ok (.if_icmp .lt 12, 3) := by decide +kernel
theorem dX6_within_5 : decode cX6_within 5 = .ok (.iload_n 0, 1) := by decide +kernel
theorem dX6_within_6 : decode cX6_within 6 = .ok (.iload_n 2, 1) := by decide +kernel
theorem dX6_within_7 : decode cX6_within 7 = .ok (.if_icmp .gt 7, 3) := by decide +kernel
theorem dX6_within_10 : decode cX6_within 10 = .ok (.iconst 1, 1) := by decide +kernel
theorem dX6_within_11 : decode cX6_within 11 = .ok (.goto 4, 3) := by decide +kernel
theorem dX6_within_14 : decode cX6_within 14 = .ok (.iconst 0, 1) := by decide +kernel
theorem dX6_within_15 : decode cX6_within 15 = .ok (.ireturn, 1) := by decide +kernel
theorem dX6_save_0 : decode cX6_save 0 = .ok (.aload_n 0, 1) := by decide +kernel
theorem dX6_save_1 : decode cX6_save 1 = .ok (.getfield 35, 3) := by decide +kernel
theorem dX6_save_4 : decode cX6_save 4 = .ok (.bipush 6, 2) := by decide +kernel
theorem dX6_save_6 : decode cX6_save 6 = .ok (.if_icmp .ne 44, 3) := by decide +kernel
theorem dX6_save_9 : decode cX6_save 9 = .ok (.bipush 89, 2) := by decide +kernel
theorem dX6_save_11 : decode cX6_save 11 = .ok (.istore_n 1, 1) := by decide +kernel
theorem dX6_save_12 : decode cX6_save 12 = .ok (.iload_n 1, 1) := by decide +kernel
theorem dX6_save_13 : decode cX6_save 13 = .ok (.sipush 534, 3) := by decide +kernel
theorem dX6_save_16 : decode cX6_save 16 = .ok (.if_icmp .ge 24, 3) := by decide +kernel
theorem dX6_save_19 : decode cX6_save 19 = .ok (.aload_n 0, 1) := by decide +kernel
theorem dX6_save_20 : decode cX6_save 20 = .ok (.getfield 13, 3) := by decide +kernel
theorem dX6_save_23 : decode cX6_save 23 = .ok (.iload_n 1, 1) := by decide +kernel
theorem dX6_save_24 : decode cX6_save 24 = .ok (.bipush 89, 2) := by decide +kernel
theorem dX6_save_26 : decode cX6_save 26 = .ok (.isub, 1) := by decide +kernel
theorem dX6_save_27 : decode cX6_save 27 = .ok (.aload_n 0, 1) := by decide +kernel
theorem dX6_save_28 : decode cX6_save 28 = .ok (.getfield 13, 3) := by decide +kernel
theorem dX6_save_31 : decode cX6_save 31 = .ok (.iload_n 1, 1) := by decide +kernel
theorem dX6_save_32 : decode cX6_save 32 = .ok (.iaload, 1) := by decide +kernel
theorem dX6_save_33 : decode cX6_save 33 = .ok (.iastore, 1) := by decide +kernel
theorem dX6_save_34 : decode cX6_save 34 = .ok (.iinc 1 1, 3) := by decide +kernel
theorem dX6_save_37 : decode cX6_save 37 = .ok (.goto (-25), 3) := by decide +kernel
theorem dX6_save_40 : decode cX6_save 40 = .ok (.aload_n 0, 1) := by decide +kernel
theorem dX6_save_41 : decode cX6_save 41 = .ok (.dup, 1) := by decide +kernel
theorem dX6_save_42 : decode cX6_save 42 = .ok (.getfield 35, 3) := by decide +kernel
theorem dX6_save_45 : decode cX6_save 45 = .ok (.iconst 1, 1) := by decide +kernel
theorem dX6_save_46 : decode cX6_save 46 = .ok (.isub, 1) := by decide +kernel
theorem dX6_save_47 : decode cX6_save 47 = .ok (.putfield 35, 3) := by decide +kernel
theorem dX6_save_50 : decode cX6_save 50 = .ok (.iconst 0, 1) := by decide +kernel
theorem dX6_save_51 : decode cX6_save 51 = .ok (.istore_n 1, 1) := by decide +kernel
theorem dX6_save_52 : decode cX6_save 52 = .ok (.iload_n 1, 1) := by decide +kernel
theorem dX6_save_53 : decode cX6_save 53 = .ok (.bipush 89, 2) := by decide +kernel
theorem dX6_save_55 : decode cX6_save 55 = .ok (.if_icmp .ge 29, 3) := by decide +kernel
theorem dX6_save_58 : decode cX6_save 58 = .ok (.aload_n 0, 1) := by decide +kernel
theorem dX6_save_59 : decode cX6_save 59 = .ok (.getfield 13, 3) := by decide +kernel
theorem dX6_save_62 : decode cX6_save 62 = .ok (.bipush 89, 2) := by decide +kernel
theorem dX6_save_64 : decode cX6_save 64 = .ok (.aload_n 0, 1) := by decide +kernel
theorem dX6_save_65 : decode cX6_save 65 = .ok (.getfield 35, 3) := by decide +kernel
theorem dX6_save_68 : decode cX6_save 68 = .ok (.imul, 1) := by decide +kernel
theorem dX6_save_69 : decode cX6_save 69 = .ok (.iload_n 1, 1) := by decide +kernel
theorem dX6_save_70 : decode cX6_save 70 = .ok (.iadd, 1) := by decide +kernel
theorem dX6_save_71 : decode cX6_save 71 = .ok (.aload_n 0, 1) := by decide +kernel
theorem dX6_save_72 : decode cX6_save 72 = .ok (.getfield 7, 3) := by decide +kernel
theorem dX6_save_75 : decode cX6_save 75 = .ok (.iload_n 1, 1) := by decide +kernel
theorem dX6_save_76 : decode cX6_save 76 = .ok (.iaload, 1) := by decide +kernel
theorem dX6_save_77 : decode cX6_save 77 = .ok (.iastore, 1) := by decide +kernel
theorem dX6_save_78 : decode cX6_save 78 = .ok (.iinc 1 1, 3) := by decide +kernel
theorem dX6_save_81 : decode cX6_save 81 = .ok (.goto (-29), 3) := by decide +kernel
theorem dX6_save_84 : decode cX6_save 84 = .ok (.aload_n 0, 1) := by decide +kernel
theorem dX6_save_85 : decode cX6_save 85 = .ok (.dup, 1) := by decide +kernel
theorem dX6_save_86 : decode cX6_save 86 = .ok (.getfield 35, 3) := by decide +kernel
theorem dX6_save_89 : decode cX6_save 89 = .ok (.iconst 1, 1) := by decide +kernel
theorem dX6_save_90 : decode cX6_save 90 = .ok (.iadd, 1) := by decide +kernel
theorem dX6_save_91 : decode cX6_save 91 = .ok (.putfield 35, 3) := by decide +kernel
theorem dX6_save_94 : decode cX6_save 94 = .ok (.return_, 1) := by decide +kernel
theorem dX6_isSlot_0 : decode cX6_isSlot 0 = .ok (.iload_n 0, 1) := by decide +kernel
theorem dX6_isSlot_1 : decode cX6_isSlot 1 = .ok (.iconst 0, 1) := by decide +kernel
theorem dX6_isSlot_2 : decode cX6_isSlot 2 = .ok (.iconst 5, 1) := by decide +kernel
theorem dX6_isSlot_3 : decode cX6_isSlot 3 = .ok (.invokestatic 38, 3) := by decide +kernel
theorem dX6_isSlot_6 : decode cX6_isSlot 6 = .ok (.ireturn, 1) := by decide +kernel
theorem dX6_areSlots_0 : decode cX6_areSlots 0 = .ok (.iload_n 0, 1) := by decide +kernel
theorem dX6_areSlots_1 : decode cX6_areSlots 1 = .ok (.invokestatic 42, 3) := by decide +kernel
theorem dX6_areSlots_4 : decode cX6_areSlots 4 = .ok (.ifCond .eq 14, 3) := by decide +kernel
theorem dX6_areSlots_7 : decode cX6_areSlots 7 = .ok (.iload_n 1, 1) := by decide +kernel
theorem dX6_areSlots_8 : decode cX6_areSlots 8 = .ok (.invokestatic 42, 3) := by decide +kernel
theorem dX6_areSlots_11 : decode cX6_areSlots 11 = .ok (.ifCond .eq 7, 3) := by decide +kernel
theorem dX6_areSlots_14 : decode cX6_areSlots 14 = .ok (.iconst 1, 1) := by decide +kernel
theorem dX6_areSlots_15 : decode cX6_areSlots 15 = .ok (.goto 4, 3) := by decide +kernel
theorem dX6_areSlots_18 : decode cX6_areSlots 18 = .ok (.iconst 0, 1) := by decide +kernel
theorem dX6_areSlots_19 : decode cX6_areSlots 19 = .ok (.ireturn, 1) := by decide +kernel
theorem dX6_modulo_0 : decode cX6_modulo 0 = .ok (.iload_n 0, 1) := by decide +kernel
theorem dX6_modulo_1 : decode cX6_modulo 1 = .ok (.sipush 10007, 3) := by decide +kernel
theorem dX6_modulo_4 : decode cX6_modulo 4 = .ok (.irem, 1) := by decide +kernel
theorem dX6_modulo_5 : decode cX6_modulo 5 = .ok (.ifCond .ge 15, 3) := by decide +kernel
theorem dX6_modulo_8 : decode cX6_modulo 8 = .ok (.iload_n 0, 1) := by decide +kernel
theorem dX6_modulo_9 : decode cX6_modulo 9 = .ok (.sipush 10007, 3) := by decide +kernel
theorem dX6_modulo_12 : decode cX6_modulo 12 = .ok (.irem, 1) := by decide +kernel
theorem dX6_modulo_13 : decode cX6_modulo 13 = .ok (.sipush 10007, 3) := by decide +kernel
theorem dX6_modulo_16 : decode cX6_modulo 16 = .ok (.iadd, 1) := by decide +kernel
theorem dX6_modulo_17 : decode cX6_modulo 17 = .ok (.goto 8, 3) := by decide +kernel
theorem dX6_modulo_20 : decode cX6_modulo 20 = .ok (.iload_n 0, 1) := by decide +kernel
theorem dX6_modulo_21 : decode cX6_modulo 21 = .ok (.sipush 10007, 3) := by decide +kernel
theorem dX6_modulo_24 : decode cX6_modulo 24 = .ok (.irem, 1) := by decide +kernel
theorem dX6_modulo_25 : decode cX6_modulo 25 = .ok (.ireturn, 1) := by decide +kernel
theorem dX6_inverse_0 : decode cX6_inverse 0 = .ok (.iconst 1, 1) := by decide +kernel
theorem dX6_inverse_1 : decode cX6_inverse 1 = .ok (.istore_n 1, 1) := by decide +kernel
theorem dX6_inverse_2 : decode cX6_inverse 2 = .ok (.iload_n 0, 1) := by decide +kernel
theorem dX6_inverse_3 : decode cX6_inverse 3 = .ok (.istore_n 2, 1) := by decide +kernel
theorem dX6_inverse_4 : decode cX6_inverse 4 = .ok (.sipush 10005, 3) := by decide +kernel
theorem dX6_inverse_7 : decode cX6_inverse 7 = .ok (.istore_n 3, 1) := by decide +kernel
theorem dX6_inverse_8 : decode cX6_inverse 8 = .ok (.iload_n 3, 1) := by decide +kernel
theorem dX6_inverse_9 : decode cX6_inverse 9 = .ok (.ifCond .le 37, 3) := by decide +kernel
theorem dX6_inverse_12 : decode cX6_inverse 12 = .ok (.iload_n 3, 1) := by decide +kernel
theorem dX6_inverse_13 : decode cX6_inverse 13 = .ok (.iconst 2, 1) := by decide +kernel
theorem dX6_inverse_14 : decode cX6_inverse 14 = .ok (.irem, 1) := by decide +kernel
theorem dX6_inverse_15 : decode cX6_inverse 15 = .ok (.iconst 1, 1) := by decide +kernel
theorem dX6_inverse_16 : decode cX6_inverse 16 = .ok (.if_icmp .ne 13, 3) := by decide +kernel
theorem dX6_inverse_19 : decode cX6_inverse 19 = .ok (.iload_n 1, 1) := by decide +kernel
theorem dX6_inverse_20 : decode cX6_inverse 20 = .ok (.iload_n 2, 1) := by decide +kernel
theorem dX6_inverse_21 : decode cX6_inverse 21 = .ok (.imul, 1) := by decide +kernel
theorem dX6_inverse_22 : decode cX6_inverse 22 = .ok (.sipush 10007, 3) := by decide +kernel
theorem dX6_inverse_25 : decode cX6_inverse 25 = .ok (.irem, 1) := by decide +kernel
theorem dX6_inverse_26 : decode cX6_inverse 26 = .ok (.goto 4, 3) := by decide +kernel
theorem dX6_inverse_29 : decode cX6_inverse 29 = .ok (.iload_n 1, 1) := by decide +kernel
theorem dX6_inverse_30 : decode cX6_inverse 30 = .ok (.istore_n 1, 1) := by decide +kernel
theorem dX6_inverse_31 : decode cX6_inverse 31 = .ok (.iload_n 2, 1) := by decide +kernel
theorem dX6_inverse_32 : decode cX6_inverse 32 = .ok (.iload_n 2, 1) := by decide +kernel
theorem dX6_inverse_33 : decode cX6_inverse 33 = .ok (.imul, 1) := by decide +kernel
theorem dX6_inverse_34 : decode cX6_inverse 34 = .ok (.sipush 10007, 3) := by decide +kernel
theorem dX6_inverse_37 : decode cX6_inverse 37 = .ok (.irem, 1) := by decide +kernel
theorem dX6_inverse_38 : decode cX6_inverse 38 = .ok (.istore_n 2, 1) := by decide +kernel
theorem dX6_inverse_39 : decode cX6_inverse 39 = .ok (.iload_n 3, 1) := by decide +kernel
theorem dX6_inverse_40 : decode cX6_inverse 40 = .ok (.iconst 2, 1) := by decide +kernel
theorem dX6_inverse_41 : decode cX6_inverse 41 = .ok (.idiv, 1) := by decide +kernel
theorem dX6_inverse_42 : decode cX6_inverse 42 = .ok (.istore_n 3, 1) := by decide +kernel
theorem dX6_inverse_43 : decode cX6_inverse 43 = .ok (.goto (-35), 3) := by decide +kernel
theorem dX6_inverse_46 : decode cX6_inverse 46 = .ok (.iload_n 1, 1) := by decide +kernel
theorem dX6_inverse_47 : decode cX6_inverse 47 = .ok (.ireturn, 1) := by decide +kernel
theorem dX6_at_0 : decode cX6_at 0 = .ok (.aload_n 0, 1) := by decide +kernel
theorem dX6_at_1 : decode cX6_at 1 = .ok (.getfield 22, 3) := by decide +kernel
theorem dX6_at_4 : decode cX6_at 4 = .ok (.bipush 7, 2) := by decide +kernel
theorem dX6_at_6 : decode cX6_at 6 = .ok (.iload_n 1, 1) := by decide +kernel
theorem dX6_at_7 : decode cX6_at 7 = .ok (.imul, 1) := by decide +kernel
theorem dX6_at_8 : decode cX6_at 8 = .ok (.iload_n 2, 1) := by decide +kernel
theorem dX6_at_9 : decode cX6_at 9 = .ok (.iadd, 1) := by decide +kernel
theorem dX6_at_10 : decode cX6_at 10 = .ok (.iaload, 1) := by decide +kernel
theorem dX6_at_11 : decode cX6_at 11 = .ok (.ireturn, 1) := by decide +kernel
theorem dX6_setAt_0 : decode cX6_setAt 0 = .ok (.aload_n 0, 1) := by decide +kernel
theorem dX6_setAt_1 : decode cX6_setAt 1 = .ok (.getfield 22, 3) := by decide +kernel
theorem dX6_setAt_4 : decode cX6_setAt 4 = .ok (.bipush 7, 2) := by decide +kernel
theorem dX6_setAt_6 : decode cX6_setAt 6 = .ok (.iload_n 1, 1) := by decide +kernel
theorem dX6_setAt_7 : decode cX6_setAt 7 = .ok (.imul, 1) := by decide +kernel
theorem dX6_setAt_8 : decode cX6_setAt 8 = .ok (.iload_n 2, 1) := by decide +kernel
theorem dX6_setAt_9 : decode cX6_setAt 9 = .ok (.iadd, 1) := by decide +kernel
theorem dX6_setAt_10 : decode cX6_setAt 10 = .ok (.iload_n 3, 1) := by decide +kernel
theorem dX6_setAt_11 : decode cX6_setAt 11 = .ok (.sipush 10007, 3) := by decide +kernel
theorem dX6_setAt_14 : decode cX6_setAt 14 = .ok (.irem, 1) := by decide +kernel
theorem dX6_setAt_15 : decode cX6_setAt 15 = .ok (.iastore, 1) := by decide +kernel
theorem dX6_setAt_16 : decode cX6_setAt 16 = .ok (.return_, 1) := by decide +kernel
theorem dX6_clear_0 : decode cX6_clear 0 = .ok (.iconst 0, 1) := by decide +kernel
theorem dX6_clear_1 : decode cX6_clear 1 = .ok (.istore_n 2, 1) := by decide +kernel
theorem dX6_clear_2 : decode cX6_clear 2 = .ok (.iload_n 2, 1) := by decide +kernel
theorem dX6_clear_3 : decode cX6_clear 3 = .ok (.bipush 7, 2) := by decide +kernel
theorem dX6_clear_5 : decode cX6_clear 5 = .ok (.if_icmp .ge 16, 3) := by decide +kernel
theorem dX6_clear_8 : decode cX6_clear 8 = .ok (.aload_n 0, 1) := by decide +kernel
theorem dX6_clear_9 : decode cX6_clear 9 = .ok (.iload_n 1, 1) := by decide +kernel
theorem dX6_clear_10 : decode cX6_clear 10 = .ok (.iload_n 2, 1) := by decide +kernel
theorem dX6_clear_11 : decode cX6_clear 11 = .ok (.iconst 0, 1) := by decide +kernel
theorem dX6_clear_12 : decode cX6_clear 12 = .ok (.invokevirtual 46, 3) := by decide +kernel
theorem dX6_clear_15 : decode cX6_clear 15 = .ok (.iinc 2 1, 3) := by decide +kernel
theorem dX6_clear_18 : decode cX6_clear 18 = .ok (.goto (-16), 3) := by decide +kernel
theorem dX6_clear_21 : decode cX6_clear 21 = .ok (.return_, 1) := by decide +kernel
theorem dX6_copy_0 : decode cX6_copy 0 = .ok (.iconst 0, 1) := by decide +kernel
theorem dX6_copy_1 : decode cX6_copy 1 = .ok (.istore_n 3, 1) := by decide +kernel
theorem dX6_copy_2 : decode cX6_copy 2 = .ok (.iload_n 3, 1) := by decide +kernel
theorem dX6_copy_3 : decode cX6_copy 3 = .ok (.bipush 7, 2) := by decide +kernel
theorem dX6_copy_5 : decode cX6_copy 5 = .ok (.if_icmp .ge 21, 3) := by decide +kernel
theorem dX6_copy_8 : decode cX6_copy 8 = .ok (.aload_n 0, 1) := by decide +kernel
theorem dX6_copy_9 : decode cX6_copy 9 = .ok (.iload_n 2, 1) := by decide +kernel
theorem dX6_copy_10 : decode cX6_copy 10 = .ok (.iload_n 3, 1) := by decide +kernel
theorem dX6_copy_11 : decode cX6_copy 11 = .ok (.aload_n 0, 1) := by decide +kernel
theorem dX6_copy_12 : decode cX6_copy 12 = .ok (.iload_n 1, 1) := by decide +kernel
theorem dX6_copy_13 : decode cX6_copy 13 = .ok (.iload_n 3, 1) := by decide +kernel
theorem dX6_copy_14 : decode cX6_copy 14 = .ok (.invokevirtual 50, 3) := by decide +kernel
theorem dX6_copy_17 : decode cX6_copy 17 = .ok (.invokevirtual 46, 3) := by decide +kernel
theorem dX6_copy_20 : decode cX6_copy 20 = .ok (.iinc 3 1, 3) := by decide +kernel
theorem dX6_copy_23 : decode cX6_copy 23 = .ok (.goto (-21), 3) := by decide +kernel
theorem dX6_copy_26 : decode cX6_copy 26 = .ok (.return_, 1) := by decide +kernel
theorem dX6_load_0 : decode cX6_load 0 = .ok (.iconst 0, 1) := by decide +kernel
theorem dX6_load_1 : decode cX6_load 1 = .ok (.istore_n 3, 1) := by decide +kernel
theorem dX6_load_2 : decode cX6_load 2 = .ok (.iload_n 3, 1) := by decide +kernel
theorem dX6_load_3 : decode cX6_load 3 = .ok (.bipush 7, 2) := by decide +kernel
theorem dX6_load_5 : decode cX6_load 5 = .ok (.if_icmp .ge 23, 3) := by decide +kernel
theorem dX6_load_8 : decode cX6_load 8 = .ok (.aload_n 0, 1) := by decide +kernel
theorem dX6_load_9 : decode cX6_load 9 = .ok (.iload_n 2, 1) := by decide +kernel
theorem dX6_load_10 : decode cX6_load 10 = .ok (.iload_n 3, 1) := by decide +kernel
theorem dX6_load_11 : decode cX6_load 11 = .ok (.aload_n 0, 1) := by decide +kernel
theorem dX6_load_12 : decode cX6_load 12 = .ok (.getfield 7, 3) := by decide +kernel
theorem dX6_load_15 : decode cX6_load 15 = .ok (.iload_n 1, 1) := by decide +kernel
theorem dX6_load_16 : decode cX6_load 16 = .ok (.iload_n 3, 1) := by decide +kernel
theorem dX6_load_17 : decode cX6_load 17 = .ok (.iadd, 1) := by decide +kernel
theorem dX6_load_18 : decode cX6_load 18 = .ok (.iaload, 1) := by decide +kernel
theorem dX6_load_19 : decode cX6_load 19 = .ok (.invokevirtual 46, 3) := by decide +kernel
theorem dX6_load_22 : decode cX6_load 22 = .ok (.iinc 3 1, 3) := by decide +kernel
theorem dX6_load_25 : decode cX6_load 25 = .ok (.goto (-23), 3) := by decide +kernel
theorem dX6_load_28 : decode cX6_load 28 = .ok (.return_, 1) := by decide +kernel
theorem dX6_addTimes_0 : decode cX6_addTimes 0 = .ok (.iconst 0, 1) := by decide +kernel
theorem dX6_addTimes_1 : decode cX6_addTimes 1 = .ok (.istore 4, 2) := by decide +kernel
theorem dX6_addTimes_3 : decode cX6_addTimes 3 = .ok (.iload 4, 2) := by decide +kernel
theorem dX6_addTimes_5 : decode cX6_addTimes 5 = .ok (.bipush 7, 2) := by decide +kernel
theorem dX6_addTimes_7 : decode cX6_addTimes 7 = .ok (.if_icmp .ge 33, 3) := by decide +kernel
theorem dX6_addTimes_10 : decode cX6_addTimes 10 = .ok (.aload_n 0, 1) := by decide +kernel
theorem dX6_addTimes_11 : decode cX6_addTimes 11 = .ok (.iload_n 3, 1) := by decide +kernel
theorem dX6_addTimes_12 : decode cX6_addTimes 12 = .ok (.iload 4, 2) := by decide +kernel
theorem dX6_addTimes_14 : decode cX6_addTimes 14 = .ok (.aload_n 0, 1) := by decide +kernel
theorem dX6_addTimes_15 : decode cX6_addTimes 15 = .ok (.iload_n 3, 1) := by decide +kernel
theorem dX6_addTimes_16 : decode cX6_addTimes 16 = .ok (.iload 4, 2) := by decide +kernel
theorem dX6_addTimes_18 : decode cX6_addTimes 18 = .ok (.invokevirtual 50, 3) := by decide +kernel
theorem dX6_addTimes_21 : decode cX6_addTimes 21 = .ok (.aload_n 0, 1) := by decide +kernel
theorem dX6_addTimes_22 : decode cX6_addTimes 22 = .ok (.iload_n 1, 1) := by decide +kernel
theorem dX6_addTimes_23 : decode cX6_addTimes 23 = .ok (.iload 4, 2) := by decide +kernel
theorem dX6_addTimes_25 : decode cX6_addTimes 25 = .ok (.invokevirtual 50, 3) := by decide +kernel
theorem dX6_addTimes_28 : decode cX6_addTimes 28 = .ok (.iload_n 2, 1) := by decide +kernel
theorem dX6_addTimes_29 : decode cX6_addTimes 29 = .ok (.imul, 1) := by decide +kernel
theorem dX6_addTimes_30 : decode cX6_addTimes 30 = .ok (.iadd, 1) := by decide +kernel
theorem dX6_addTimes_31 : decode cX6_addTimes 31 = .ok (.invokevirtual 46, 3) := by decide +kernel
theorem dX6_addTimes_34 : decode cX6_addTimes 34 = .ok (.iinc 4 1, 3) := by decide +kernel
theorem dX6_addTimes_37 : decode cX6_addTimes 37 = .ok (.goto (-34), 3) := by decide +kernel
theorem dX6_addTimes_40 : decode cX6_addTimes 40 = .ok (.return_, 1) := by decide +kernel
theorem dX6_multiply_0 : decode cX6_multiply 0 = .ok (.aload_n 0, 1) := by decide +kernel
theorem dX6_multiply_1 : decode cX6_multiply 1 = .ok (.iload_n 3, 1) := by decide +kernel
theorem dX6_multiply_2 : decode cX6_multiply 2 = .ok (.invokevirtual 54, 3) := by decide +kernel
theorem dX6_multiply_5 : decode cX6_multiply 5 = .ok (.iconst 0, 1) := by decide +kernel
theorem dX6_multiply_6 : decode cX6_multiply 6 = .ok (.istore 4, 2) := by decide +kernel
theorem dX6_multiply_8 : decode cX6_multiply 8 = .ok (.iload 4, 2) := by decide +kernel
theorem dX6_multiply_10 : decode cX6_multiply 10 = .ok (.aload_n 0, 1) := by decide +kernel
theorem dX6_multiply_11 : decode cX6_multiply 11 = .ok (.getfield 7, 3) := by decide +kernel
theorem dX6_multiply_14 : decode cX6_multiply 14 = .ok (.iconst 0, 1) := by decide +kernel
theorem dX6_multiply_15 : decode cX6_multiply 15 = .ok (.iaload, 1) := by decide +kernel
theorem dX6_multiply_16 : decode cX6_multiply 16 = .ok (.if_icmp .gt 68, 3) := by decide +kernel
theorem dX6_multiply_19 : decode cX6_multiply 19 = .ok (.iconst 0, 1) := by decide +kernel
theorem dX6_multiply_20 : decode cX6_multiply 20 = .ok (.istore 5, 2) := by decide +kernel
theorem dX6_multiply_22 : decode cX6_multiply 22 = .ok (.iload 4, 2) := by decide +kernel
theorem dX6_multiply_24 : decode cX6_multiply 24 = .ok (.iload 5, 2) := by decide +kernel
theorem dX6_multiply_26 : decode cX6_multiply 26 = .ok (.iadd, 1) := by decide +kernel
theorem dX6_multiply_27 : decode cX6_multiply 27 = .ok (.aload_n 0, 1) := by decide +kernel
theorem dX6_multiply_28 : decode cX6_multiply 28 = .ok (.getfield 7, 3) := by decide +kernel
theorem dX6_multiply_31 : decode cX6_multiply 31 = .ok (.iconst 0, 1) := by decide +kernel
theorem dX6_multiply_32 : decode cX6_multiply 32 = .ok (.iaload, 1) := by decide +kernel
theorem dX6_multiply_33 : decode cX6_multiply 33 = .ok (.if_icmp .gt 45, 3) := by decide +kernel
theorem dX6_multiply_36 : decode cX6_multiply 36 = .ok (.aload_n 0, 1) := by decide +kernel
theorem dX6_multiply_37 : decode cX6_multiply 37 = .ok (.iload_n 3, 1) := by decide +kernel
theorem dX6_multiply_38 : decode cX6_multiply 38 = .ok (.iload 4, 2) := by decide +kernel
theorem dX6_multiply_40 : decode cX6_multiply 40 = .ok (.iload 5, 2) := by decide +kernel
theorem dX6_multiply_42 : decode cX6_multiply 42 = .ok (.iadd, 1) := by decide +kernel
theorem dX6_multiply_43 : decode cX6_multiply 43 = .ok (.aload_n 0, 1) := by decide +kernel
theorem dX6_multiply_44 : decode cX6_multiply 44 = .ok (.iload_n 3, 1) := by decide +kernel
theorem dX6_multiply_45 : decode cX6_multiply 45 = .ok (.iload 4, 2) := by decide +kernel
theorem dX6_multiply_47 : decode cX6_multiply 47 = .ok (.iload 5, 2) := by decide +kernel
theorem dX6_multiply_49 : decode cX6_multiply 49 = .ok (.iadd, 1) := by decide +kernel
theorem dX6_multiply_50 : decode cX6_multiply 50 = .ok (.invokevirtual 50, 3) := by decide +kernel
theorem dX6_multiply_53 : decode cX6_multiply 53 = .ok (.aload_n 0, 1) := by decide +kernel
theorem dX6_multiply_54 : decode cX6_multiply 54 = .ok (.iload_n 1, 1) := by decide +kernel
theorem dX6_multiply_55 : decode cX6_multiply 55 = .ok (.iload 4, 2) := by decide +kernel
theorem dX6_multiply_57 : decode cX6_multiply 57 = .ok (.invokevirtual 50, 3) := by decide +kernel
theorem dX6_multiply_60 : decode cX6_multiply 60 = .ok (.aload_n 0, 1) := by decide +kernel
theorem dX6_multiply_61 : decode cX6_multiply 61 = .ok (.iload_n 2, 1) := by decide +kernel
theorem dX6_multiply_62 : decode cX6_multiply 62 = .ok (.iload 5, 2) := by decide +kernel
theorem dX6_multiply_64 : decode cX6_multiply 64 = .ok (.invokevirtual 50, 3) := by decide +kernel
theorem dX6_multiply_67 : decode cX6_multiply 67 = .ok (.imul, 1) := by decide +kernel
theorem dX6_multiply_68 : decode cX6_multiply 68 = .ok (.iadd, 1) := by decide +kernel
theorem dX6_multiply_69 : decode cX6_multiply 69 = .ok (.invokevirtual 46, 3) := by decide +kernel
theorem dX6_multiply_72 : decode cX6_multiply 72 = .ok (.iinc 5 1, 3) := by decide +kernel
theorem dX6_multiply_75 : decode cX6_multiply 75 = .ok (.goto (-53), 3) := by decide +kernel
theorem dX6_multiply_78 : decode cX6_multiply 78 = .ok (.iinc 4 1, 3) := by decide +kernel
theorem dX6_multiply_81 : decode cX6_multiply 81 = .ok (.goto (-73), 3) := by decide +kernel
theorem dX6_multiply_84 : decode cX6_multiply 84 = .ok (.return_, 1) := by decide +kernel
theorem dX6_derive_0 : decode cX6_derive 0 = .ok (.iconst 0, 1) := by decide +kernel
theorem dX6_derive_1 : decode cX6_derive 1 = .ok (.istore_n 3, 1) := by decide +kernel
theorem dX6_derive_2 : decode cX6_derive 2 = .ok (.iload_n 3, 1) := by decide +kernel
theorem dX6_derive_3 : decode cX6_derive 3 = .ok (.bipush 6, 2) := by decide +kernel
theorem dX6_derive_5 : decode cX6_derive 5 = .ok (.if_icmp .ge 27, 3) := by decide +kernel
theorem dX6_derive_8 : decode cX6_derive 8 = .ok (.aload_n 0, 1) := by decide +kernel
theorem dX6_derive_9 : decode cX6_derive 9 = .ok (.iload_n 2, 1) := by decide +kernel
theorem dX6_derive_10 : decode cX6_derive 10 = .ok (.iload_n 3, 1) := by decide +kernel
theorem dX6_derive_11 : decode cX6_derive 11 = .ok (.aload_n 0, 1) := by decide +kernel
theorem dX6_derive_12 : decode cX6_derive 12 = .ok (.iload_n 1, 1) := by decide +kernel
theorem dX6_derive_13 : decode cX6_derive 13 = .ok (.iload_n 3, 1) := by decide +kernel
theorem dX6_derive_14 : decode cX6_derive 14 = .ok (.iconst 1, 1) := by decide +kernel
theorem dX6_derive_15 : decode cX6_derive 15 = .ok (.iadd, 1) := by decide +kernel
theorem dX6_derive_16 : decode cX6_derive 16 = .ok (.invokevirtual 50, 3) := by decide +kernel
theorem dX6_derive_19 : decode cX6_derive 19 = .ok (.iload_n 3, 1) := by decide +kernel
theorem dX6_derive_20 : decode cX6_derive 20 = .ok (.iconst 1, 1) := by decide +kernel
theorem dX6_derive_21 : decode cX6_derive 21 = .ok (.iadd, 1) := by decide +kernel
theorem dX6_derive_22 : decode cX6_derive 22 = .ok (.imul, 1) := by decide +kernel
theorem dX6_derive_23 : decode cX6_derive 23 = .ok (.invokevirtual 46, 3) := by decide +kernel
theorem dX6_derive_26 : decode cX6_derive 26 = .ok (.iinc 3 1, 3) := by decide +kernel
theorem dX6_derive_29 : decode cX6_derive 29 = .ok (.goto (-27), 3) := by decide +kernel
theorem dX6_derive_32 : decode cX6_derive 32 = .ok (.aload_n 0, 1) := by decide +kernel
theorem dX6_derive_33 : decode cX6_derive 33 = .ok (.iload_n 2, 1) := by decide +kernel
theorem dX6_derive_34 : decode cX6_derive 34 = .ok (.bipush 6, 2) := by decide +kernel
theorem dX6_derive_36 : decode cX6_derive 36 = .ok (.iconst 0, 1) := by decide +kernel
theorem dX6_derive_37 : decode cX6_derive 37 = .ok (.invokevirtual 46, 3) := by decide +kernel
theorem dX6_derive_40 : decode cX6_derive 40 = .ok (.return_, 1) := by decide +kernel
theorem dX6_putIn_0 : decode cX6_putIn 0 = .ok (.aload_n 0, 1) := by decide +kernel
theorem dX6_putIn_1 : decode cX6_putIn 1 = .ok (.iload_n 3, 1) := by decide +kernel
theorem dX6_putIn_2 : decode cX6_putIn 2 = .ok (.invokevirtual 54, 3) := by decide +kernel
theorem dX6_putIn_5 : decode cX6_putIn 5 = .ok (.aload_n 0, 1) := by decide +kernel
theorem dX6_putIn_6 : decode cX6_putIn 6 = .ok (.bipush 6, 2) := by decide +kernel
theorem dX6_putIn_8 : decode cX6_putIn 8 = .ok (.invokevirtual 54, 3) := by decide +kernel
theorem dX6_putIn_11 : decode cX6_putIn 11 = .ok (.aload_n 0, 1) := by decide +kernel
theorem dX6_putIn_12 : decode cX6_putIn 12 = .ok (.bipush 6, 2) := by decide +kernel
theorem dX6_putIn_14 : decode cX6_putIn 14 = .ok (.iconst 0, 1) := by decide +kernel
theorem dX6_putIn_15 : decode cX6_putIn 15 = .ok (.iconst 1, 1) := by decide +kernel
theorem dX6_putIn_16 : decode cX6_putIn 16 = .ok (.invokevirtual 46, 3) := by decide +kernel
theorem dX6_putIn_19 : decode cX6_putIn 19 = .ok (.iconst 0, 1) := by decide +kernel
theorem dX6_putIn_20 : decode cX6_putIn 20 = .ok (.istore 4, 2) := by decide +kernel
theorem dX6_putIn_22 : decode cX6_putIn 22 = .ok (.iload 4, 2) := by decide +kernel
theorem dX6_putIn_24 : decode cX6_putIn 24 = .ok (.aload_n 0, 1) := by decide +kernel
theorem dX6_putIn_25 : decode cX6_putIn 25 = .ok (.getfield 7, 3) := by decide +kernel
theorem dX6_putIn_28 : decode cX6_putIn 28 = .ok (.iconst 0, 1) := by decide +kernel
theorem dX6_putIn_29 : decode cX6_putIn 29 = .ok (.iaload, 1) := by decide +kernel
theorem dX6_putIn_30 : decode cX6_putIn 30 = .ok (.if_icmp .gt 40, 3) := by decide +kernel
theorem dX6_putIn_33 : decode cX6_putIn 33 = .ok (.aload_n 0, 1) := by decide +kernel
theorem dX6_putIn_34 : decode cX6_putIn 34 = .ok (.bipush 6, 2) := by decide +kernel
theorem dX6_putIn_36 : decode cX6_putIn 36 = .ok (.aload_n 0, 1) := by decide +kernel
theorem dX6_putIn_37 : decode cX6_putIn 37 = .ok (.iload_n 2, 1) := by decide +kernel
theorem dX6_putIn_38 : decode cX6_putIn 38 = .ok (.iload 4, 2) := by decide +kernel
theorem dX6_putIn_40 : decode cX6_putIn 40 = .ok (.invokevirtual 50, 3) := by decide +kernel
theorem dX6_putIn_43 : decode cX6_putIn 43 = .ok (.iload_n 3, 1) := by decide +kernel
theorem dX6_putIn_44 : decode cX6_putIn 44 = .ok (.invokevirtual 58, 3) := by decide +kernel
theorem dX6_putIn_47 : decode cX6_putIn 47 = .ok (.aload_n 0, 1) := by decide +kernel
theorem dX6_putIn_48 : decode cX6_putIn 48 = .ok (.bipush 6, 2) := by decide +kernel
theorem dX6_putIn_50 : decode cX6_putIn 50 = .ok (.iload_n 1, 1) := by decide +kernel
theorem dX6_putIn_51 : decode cX6_putIn 51 = .ok (.bipush 7, 2) := by decide +kernel
theorem dX6_putIn_53 : decode cX6_putIn 53 = .ok (.invokevirtual 61, 3) := by decide +kernel
theorem dX6_putIn_56 : decode cX6_putIn 56 = .ok (.aload_n 0, 1) := by decide +kernel
theorem dX6_putIn_57 : decode cX6_putIn 57 = .ok (.bipush 7, 2) := by decide +kernel
theorem dX6_putIn_59 : decode cX6_putIn 59 = .ok (.bipush 6, 2) := by decide +kernel
theorem dX6_putIn_61 : decode cX6_putIn 61 = .ok (.invokevirtual 64, 3) := by decide +kernel
theorem dX6_putIn_64 : decode cX6_putIn 64 = .ok (.iinc 4 1, 3) := by decide +kernel
theorem dX6_putIn_67 : decode cX6_putIn 67 = .ok (.goto (-45), 3) := by decide +kernel
theorem dX6_putIn_70 : decode cX6_putIn 70 = .ok (.return_, 1) := by decide +kernel
theorem dX6_setX_0 : decode cX6_setX 0 = .ok (.aload_n 0, 1) := by decide +kernel
theorem dX6_setX_1 : decode cX6_setX 1 = .ok (.iload_n 1, 1) := by decide +kernel
theorem dX6_setX_2 : decode cX6_setX 2 = .ok (.invokevirtual 54, 3) := by decide +kernel
theorem dX6_setX_5 : decode cX6_setX 5 = .ok (.aload_n 0, 1) := by decide +kernel
theorem dX6_setX_6 : decode cX6_setX 6 = .ok (.iload_n 1, 1) := by decide +kernel
theorem dX6_setX_7 : decode cX6_setX 7 = .ok (.iconst 1, 1) := by decide +kernel
theorem dX6_setX_8 : decode cX6_setX 8 = .ok (.iconst 1, 1) := by decide +kernel
theorem dX6_setX_9 : decode cX6_setX 9 = .ok (.invokevirtual 46, 3) := by decide +kernel
theorem dX6_setX_12 : decode cX6_setX 12 = .ok (.return_, 1) := by decide +kernel
theorem dX6_invertTo_0 : decode cX6_invertTo 0 = .ok (.aload_n 0, 1) := by decide +kernel
theorem dX6_invertTo_1 : decode cX6_invertTo 1 = .ok (.iload_n 2, 1) := by decide +kernel
theorem dX6_invertTo_2 : decode cX6_invertTo 2 = .ok (.invokevirtual 68, 3) := by decide +kernel
theorem dX6_invertTo_5 : decode cX6_invertTo 5 = .ok (.iconst 2, 1) := by decide +kernel
theorem dX6_invertTo_6 : decode cX6_invertTo 6 = .ok (.istore_n 3, 1) := by decide +kernel
theorem dX6_invertTo_7 : decode cX6_invertTo 7 = .ok (.iload_n 3, 1) := by decide +kernel
theorem dX6_invertTo_8 : decode cX6_invertTo 8 = .ok (.aload_n 0, 1) := by decide +kernel
theorem dX6_invertTo_9 : decode cX6_invertTo 9 = .ok (.getfield 7, 3) := by decide +kernel
theorem dX6_invertTo_12 : decode cX6_invertTo 12 = .ok (.iconst 0, 1) := by decide +kernel
theorem dX6_invertTo_13 : decode cX6_invertTo 13 = .ok (.iaload, 1) := by decide +kernel
theorem dX6_invertTo_14 : decode cX6_invertTo 14 = .ok (.if_icmp .gt 41, 3) := by decide +kernel
theorem dX6_invertTo_17 : decode cX6_invertTo 17 = .ok (.aload_n 0, 1) := by decide +kernel
theorem dX6_invertTo_18 : decode cX6_invertTo 18 = .ok (.iload_n 1, 1) := by decide +kernel
theorem dX6_invertTo_19 : decode cX6_invertTo 19 = .ok (.iload_n 2, 1) := by decide +kernel
theorem dX6_invertTo_20 : decode cX6_invertTo 20 = .ok (.bipush 8, 2) := by decide +kernel
theorem dX6_invertTo_22 : decode cX6_invertTo 22 = .ok (.invokevirtual 71, 3) := by decide +kernel
theorem dX6_invertTo_25 : decode cX6_invertTo 25 = .ok (.aload_n 0, 1) := by decide +kernel
theorem dX6_invertTo_26 : decode cX6_invertTo 26 = .ok (.iload_n 2, 1) := by decide +kernel
theorem dX6_invertTo_27 : decode cX6_invertTo 27 = .ok (.iload_n 3, 1) := by decide +kernel
theorem dX6_invertTo_28 : decode cX6_invertTo 28 = .ok (.aload_n 0, 1) := by decide +kernel
theorem dX6_invertTo_29 : decode cX6_invertTo 29 = .ok (.iload_n 2, 1) := by decide +kernel
theorem dX6_invertTo_30 : decode cX6_invertTo 30 = .ok (.iload_n 3, 1) := by decide +kernel
theorem dX6_invertTo_31 : decode cX6_invertTo 31 = .ok (.invokevirtual 50, 3) := by decide +kernel
theorem dX6_invertTo_34 : decode cX6_invertTo 34 = .ok (.sipush 10007, 3) := by decide +kernel
theorem dX6_invertTo_37 : decode cX6_invertTo 37 = .ok (.iadd, 1) := by decide +kernel
theorem dX6_invertTo_38 : decode cX6_invertTo 38 = .ok (.aload_n 0, 1) := by decide +kernel
theorem dX6_invertTo_39 : decode cX6_invertTo 39 = .ok (.bipush 8, 2) := by decide +kernel
theorem dX6_invertTo_41 : decode cX6_invertTo 41 = .ok (.iload_n 3, 1) := by decide +kernel
theorem dX6_invertTo_42 : decode cX6_invertTo 42 = .ok (.invokevirtual 50, 3) := by decide +kernel
theorem dX6_invertTo_45 : decode cX6_invertTo 45 = .ok (.isub, 1) := by decide +kernel
theorem dX6_invertTo_46 : decode cX6_invertTo 46 = .ok (.invokevirtual 46, 3) := by decide +kernel
theorem dX6_invertTo_49 : decode cX6_invertTo 49 = .ok (.iinc 3 1, 3) := by decide +kernel
theorem dX6_invertTo_52 : decode cX6_invertTo 52 = .ok (.goto (-45), 3) := by decide +kernel
theorem dX6_invertTo_55 : decode cX6_invertTo 55 = .ok (.return_, 1) := by decide +kernel
theorem dX6_expTo_0 : decode cX6_expTo 0 = .ok (.aload_n 0, 1) := by decide +kernel
theorem dX6_expTo_1 : decode cX6_expTo 1 = .ok (.bipush 9, 2) := by decide +kernel
theorem dX6_expTo_3 : decode cX6_expTo 3 = .ok (.invokevirtual 68, 3) := by decide +kernel
theorem dX6_expTo_6 : decode cX6_expTo 6 = .ok (.aload_n 0, 1) := by decide +kernel
theorem dX6_expTo_7 : decode cX6_expTo 7 = .ok (.bipush 9, 2) := by decide +kernel
theorem dX6_expTo_9 : decode cX6_expTo 9 = .ok (.iload_n 2, 1) := by decide +kernel
theorem dX6_expTo_10 : decode cX6_expTo 10 = .ok (.invokevirtual 64, 3) := by decide +kernel
theorem dX6_expTo_13 : decode cX6_expTo 13 = .ok (.iconst 1, 1) := by decide +kernel
theorem dX6_expTo_14 : decode cX6_expTo 14 = .ok (.istore_n 3, 1) := by decide +kernel
theorem dX6_expTo_15 : decode cX6_expTo 15 = .ok (.iload_n 3, 1) := by decide +kernel
theorem dX6_expTo_16 : decode cX6_expTo 16 = .ok (.aload_n 0, 1) := by decide +kernel
theorem dX6_expTo_17 : decode cX6_expTo 17 = .ok (.getfield 7, 3) := by decide +kernel
theorem dX6_expTo_20 : decode cX6_expTo 20 = .ok (.iconst 0, 1) := by decide +kernel
theorem dX6_expTo_21 : decode cX6_expTo 21 = .ok (.iaload, 1) := by decide +kernel
theorem dX6_expTo_22 : decode cX6_expTo 22 = .ok (.if_icmp .ge 52, 3) := by decide +kernel
theorem dX6_expTo_25 : decode cX6_expTo 25 = .ok (.aload_n 0, 1) := by decide +kernel
theorem dX6_expTo_26 : decode cX6_expTo 26 = .ok (.bipush 9, 2) := by decide +kernel
theorem dX6_expTo_28 : decode cX6_expTo 28 = .ok (.bipush 10, 2) := by decide +kernel
theorem dX6_expTo_30 : decode cX6_expTo 30 = .ok (.invokevirtual 74, 3) := by decide +kernel
theorem dX6_expTo_33 : decode cX6_expTo 33 = .ok (.aload_n 0, 1) := by decide +kernel
theorem dX6_expTo_34 : decode cX6_expTo 34 = .ok (.iload_n 1, 1) := by decide +kernel
theorem dX6_expTo_35 : decode cX6_expTo 35 = .ok (.bipush 10, 2) := by decide +kernel
theorem dX6_expTo_37 : decode cX6_expTo 37 = .ok (.bipush 11, 2) := by decide +kernel
theorem dX6_expTo_39 : decode cX6_expTo 39 = .ok (.invokevirtual 61, 3) := by decide +kernel
theorem dX6_expTo_42 : decode cX6_expTo 42 = .ok (.aload_n 0, 1) := by decide +kernel
theorem dX6_expTo_43 : decode cX6_expTo 43 = .ok (.bipush 9, 2) := by decide +kernel
theorem dX6_expTo_45 : decode cX6_expTo 45 = .ok (.invokevirtual 54, 3) := by decide +kernel
theorem dX6_expTo_48 : decode cX6_expTo 48 = .ok (.aload_n 0, 1) := by decide +kernel
theorem dX6_expTo_49 : decode cX6_expTo 49 = .ok (.bipush 11, 2) := by decide +kernel
theorem dX6_expTo_51 : decode cX6_expTo 51 = .ok (.iload_n 3, 1) := by decide +kernel
theorem dX6_expTo_52 : decode cX6_expTo 52 = .ok (.invokestatic 77, 3) := by decide +kernel
theorem dX6_expTo_55 : decode cX6_expTo 55 = .ok (.bipush 9, 2) := by decide +kernel
theorem dX6_expTo_57 : decode cX6_expTo 57 = .ok (.invokevirtual 58, 3) := by decide +kernel
theorem dX6_expTo_60 : decode cX6_expTo 60 = .ok (.aload_n 0, 1) := by decide +kernel
theorem dX6_expTo_61 : decode cX6_expTo 61 = .ok (.bipush 9, 2) := by decide +kernel
theorem dX6_expTo_63 : decode cX6_expTo 63 = .ok (.iconst 1, 1) := by decide +kernel
theorem dX6_expTo_64 : decode cX6_expTo 64 = .ok (.iload_n 2, 1) := by decide +kernel
theorem dX6_expTo_65 : decode cX6_expTo 65 = .ok (.invokevirtual 58, 3) := by decide +kernel
theorem dX6_expTo_68 : decode cX6_expTo 68 = .ok (.iinc 3 1, 3) := by decide +kernel
theorem dX6_expTo_71 : decode cX6_expTo 71 = .ok (.goto (-56), 3) := by decide +kernel
theorem dX6_expTo_74 : decode cX6_expTo 74 = .ok (.return_, 1) := by decide +kernel
theorem dX6_logTo_0 : decode cX6_logTo 0 = .ok (.aload_n 0, 1) := by decide +kernel
theorem dX6_logTo_1 : decode cX6_logTo 1 = .ok (.iload_n 2, 1) := by decide +kernel
theorem dX6_logTo_2 : decode cX6_logTo 2 = .ok (.invokevirtual 54, 3) := by decide +kernel
theorem dX6_logTo_5 : decode cX6_logTo 5 = .ok (.iconst 2, 1) := by decide +kernel
theorem dX6_logTo_6 : decode cX6_logTo 6 = .ok (.istore_n 3, 1) := by decide +kernel
theorem dX6_logTo_7 : decode cX6_logTo 7 = .ok (.iload_n 3, 1) := by decide +kernel
theorem dX6_logTo_8 : decode cX6_logTo 8 = .ok (.aload_n 0, 1) := by decide +kernel
theorem dX6_logTo_9 : decode cX6_logTo 9 = .ok (.getfield 7, 3) := by decide +kernel
theorem dX6_logTo_12 : decode cX6_logTo 12 = .ok (.iconst 0, 1) := by decide +kernel
theorem dX6_logTo_13 : decode cX6_logTo 13 = .ok (.iaload, 1) := by decide +kernel
theorem dX6_logTo_14 : decode cX6_logTo 14 = .ok (.if_icmp .gt 47, 3) := by decide +kernel
theorem dX6_logTo_17 : decode cX6_logTo 17 = .ok (.aload_n 0, 1) := by decide +kernel
theorem dX6_logTo_18 : decode cX6_logTo 18 = .ok (.iload_n 2, 1) := by decide +kernel
theorem dX6_logTo_19 : decode cX6_logTo 19 = .ok (.bipush 12, 2) := by decide +kernel
theorem dX6_logTo_21 : decode cX6_logTo 21 = .ok (.invokevirtual 81, 3) := by decide +kernel
theorem dX6_logTo_24 : decode cX6_logTo 24 = .ok (.aload_n 0, 1) := by decide +kernel
theorem dX6_logTo_25 : decode cX6_logTo 25 = .ok (.iload_n 2, 1) := by decide +kernel
theorem dX6_logTo_26 : decode cX6_logTo 26 = .ok (.iload_n 3, 1) := by decide +kernel
theorem dX6_logTo_27 : decode cX6_logTo 27 = .ok (.aload_n 0, 1) := by decide +kernel
theorem dX6_logTo_28 : decode cX6_logTo 28 = .ok (.iload_n 2, 1) := by decide +kernel
theorem dX6_logTo_29 : decode cX6_logTo 29 = .ok (.iload_n 3, 1) := by decide +kernel
theorem dX6_logTo_30 : decode cX6_logTo 30 = .ok (.invokevirtual 50, 3) := by decide +kernel
theorem dX6_logTo_33 : decode cX6_logTo 33 = .ok (.aload_n 0, 1) := by decide +kernel
theorem dX6_logTo_34 : decode cX6_logTo 34 = .ok (.iload_n 1, 1) := by decide +kernel
theorem dX6_logTo_35 : decode cX6_logTo 35 = .ok (.iload_n 3, 1) := by decide +kernel
theorem dX6_logTo_36 : decode cX6_logTo 36 = .ok (.invokevirtual 50, 3) := by decide +kernel
theorem dX6_logTo_39 : decode cX6_logTo 39 = .ok (.iadd, 1) := by decide +kernel
theorem dX6_logTo_40 : decode cX6_logTo 40 = .ok (.sipush 10007, 3) := by decide +kernel
theorem dX6_logTo_43 : decode cX6_logTo 43 = .ok (.iadd, 1) := by decide +kernel
theorem dX6_logTo_44 : decode cX6_logTo 44 = .ok (.aload_n 0, 1) := by decide +kernel
theorem dX6_logTo_45 : decode cX6_logTo 45 = .ok (.bipush 12, 2) := by decide +kernel
theorem dX6_logTo_47 : decode cX6_logTo 47 = .ok (.iload_n 3, 1) := by decide +kernel
theorem dX6_logTo_48 : decode cX6_logTo 48 = .ok (.invokevirtual 50, 3) := by decide +kernel
theorem dX6_logTo_51 : decode cX6_logTo 51 = .ok (.isub, 1) := by decide +kernel
theorem dX6_logTo_52 : decode cX6_logTo 52 = .ok (.invokevirtual 46, 3) := by decide +kernel
theorem dX6_logTo_55 : decode cX6_logTo 55 = .ok (.iinc 3 1, 3) := by decide +kernel
theorem dX6_logTo_58 : decode cX6_logTo 58 = .ok (.goto (-51), 3) := by decide +kernel
theorem dX6_logTo_61 : decode cX6_logTo 61 = .ok (.return_, 1) := by decide +kernel
theorem dX6_bracketTo_0 : decode cX6_bracketTo 0 = .ok (.aload_n 0, 1) := by decide +kernel
theorem dX6_bracketTo_1 : decode cX6_bracketTo 1 = .ok (.iload_n 2, 1) := by decide +kernel
theorem dX6_bracketTo_2 : decode cX6_bracketTo 2 = .ok (.bipush 10, 2) := by decide +kernel
theorem dX6_bracketTo_4 : decode cX6_bracketTo 4 = .ok (.invokevirtual 74, 3) := by decide +kernel
theorem dX6_bracketTo_7 : decode cX6_bracketTo 7 = .ok (.aload_n 0, 1) := by decide +kernel
theorem dX6_bracketTo_8 : decode cX6_bracketTo 8 = .ok (.iload_n 1, 1) := by decide +kernel
theorem dX6_bracketTo_9 : decode cX6_bracketTo 9 = .ok (.bipush 10, 2) := by decide +kernel
theorem dX6_bracketTo_11 : decode cX6_bracketTo 11 = .ok (.bipush 13, 2) := by decide +kernel
theorem dX6_bracketTo_13 : decode cX6_bracketTo 13 = .ok (.invokevirtual 61, 3) := by decide +kernel
theorem dX6_bracketTo_16 : decode cX6_bracketTo 16 = .ok (.aload_n 0, 1) := by decide +kernel
theorem dX6_bracketTo_17 : decode cX6_bracketTo 17 = .ok (.iload_n 1, 1) := by decide +kernel
theorem dX6_bracketTo_18 : decode cX6_bracketTo 18 = .ok (.bipush 10, 2) := by decide +kernel
theorem dX6_bracketTo_20 : decode cX6_bracketTo 20 = .ok (.invokevirtual 74, 3) := by decide +kernel
theorem dX6_bracketTo_23 : decode cX6_bracketTo 23 = .ok (.aload_n 0, 1) := by decide +kernel
theorem dX6_bracketTo_24 : decode cX6_bracketTo 24 = .ok (.iload_n 2, 1) := by decide +kernel
theorem dX6_bracketTo_25 : decode cX6_bracketTo 25 = .ok (.bipush 10, 2) := by decide +kernel
theorem dX6_bracketTo_27 : decode cX6_bracketTo 27 = .ok (.bipush 14, 2) := by decide +kernel
theorem dX6_bracketTo_29 : decode cX6_bracketTo 29 = .ok (.invokevirtual 61, 3) := by decide +kernel
theorem dX6_bracketTo_32 : decode cX6_bracketTo 32 = .ok (.aload_n 0, 1) := by decide +kernel
theorem dX6_bracketTo_33 : decode cX6_bracketTo 33 = .ok (.bipush 13, 2) := by decide +kernel
theorem dX6_bracketTo_35 : decode cX6_bracketTo 35 = .ok (.iload_n 3, 1) := by decide +kernel
theorem dX6_bracketTo_36 : decode cX6_bracketTo 36 = .ok (.invokevirtual 64, 3) := by decide +kernel
theorem dX6_bracketTo_39 : decode cX6_bracketTo 39 = .ok (.aload_n 0, 1) := by decide +kernel
theorem dX6_bracketTo_40 : decode cX6_bracketTo 40 = .ok (.bipush 14, 2) := by decide +kernel
theorem dX6_bracketTo_42 : decode cX6_bracketTo 42 = .ok (.sipush 10006, 3) := by decide +kernel
theorem dX6_bracketTo_45 : decode cX6_bracketTo 45 = .ok (.iload_n 3, 1) := by decide +kernel
theorem dX6_bracketTo_46 : decode cX6_bracketTo 46 = .ok (.invokevirtual 58, 3) := by decide +kernel
theorem dX6_bracketTo_49 : decode cX6_bracketTo 49 = .ok (.return_, 1) := by decide +kernel
theorem dX6_wayTo_0 : decode cX6_wayTo 0 = .ok (.aload_n 0, 1) := by decide +kernel
theorem dX6_wayTo_1 : decode cX6_wayTo 1 = .ok (.iconst 0, 1) := by decide +kernel
theorem dX6_wayTo_2 : decode cX6_wayTo 2 = .ok (.iconst 1, 1) := by decide +kernel
theorem dX6_wayTo_3 : decode cX6_wayTo 3 = .ok (.bipush 16, 2) := by decide +kernel
theorem dX6_wayTo_5 : decode cX6_wayTo 5 = .ok (.invokevirtual 84, 3) := by decide +kernel
theorem dX6_wayTo_8 : decode cX6_wayTo 8 = .ok (.aload_n 0, 1) := by decide +kernel
theorem dX6_wayTo_9 : decode cX6_wayTo 9 = .ok (.iconst 0, 1) := by decide +kernel
theorem dX6_wayTo_10 : decode cX6_wayTo 10 = .ok (.bipush 16, 2) := by decide +kernel
theorem dX6_wayTo_12 : decode cX6_wayTo 12 = .ok (.bipush 17, 2) := by decide +kernel
theorem dX6_wayTo_14 : decode cX6_wayTo 14 = .ok (.invokevirtual 84, 3) := by decide +kernel
theorem dX6_wayTo_17 : decode cX6_wayTo 17 = .ok (.aload_n 0, 1) := by decide +kernel
theorem dX6_wayTo_18 : decode cX6_wayTo 18 = .ok (.iconst 1, 1) := by decide +kernel
theorem dX6_wayTo_19 : decode cX6_wayTo 19 = .ok (.bipush 16, 2) := by decide +kernel
theorem dX6_wayTo_21 : decode cX6_wayTo 21 = .ok (.bipush 18, 2) := by decide +kernel
theorem dX6_wayTo_23 : decode cX6_wayTo 23 = .ok (.invokevirtual 84, 3) := by decide +kernel
theorem dX6_wayTo_26 : decode cX6_wayTo 26 = .ok (.aload_n 0, 1) := by decide +kernel
theorem dX6_wayTo_27 : decode cX6_wayTo 27 = .ok (.iconst 1, 1) := by decide +kernel
theorem dX6_wayTo_28 : decode cX6_wayTo 28 = .ok (.bipush 17, 2) := by decide +kernel
theorem dX6_wayTo_30 : decode cX6_wayTo 30 = .ok (.bipush 19, 2) := by decide +kernel
theorem dX6_wayTo_32 : decode cX6_wayTo 32 = .ok (.invokevirtual 84, 3) := by decide +kernel
theorem dX6_wayTo_35 : decode cX6_wayTo 35 = .ok (.aload_n 0, 1) := by decide +kernel
theorem dX6_wayTo_36 : decode cX6_wayTo 36 = .ok (.iconst 0, 1) := by decide +kernel
theorem dX6_wayTo_37 : decode cX6_wayTo 37 = .ok (.iload_n 2, 1) := by decide +kernel
theorem dX6_wayTo_38 : decode cX6_wayTo 38 = .ok (.invokevirtual 64, 3) := by decide +kernel
theorem dX6_wayTo_41 : decode cX6_wayTo 41 = .ok (.aload_n 0, 1) := by decide +kernel
theorem dX6_wayTo_42 : decode cX6_wayTo 42 = .ok (.iconst 1, 1) := by decide +kernel
theorem dX6_wayTo_43 : decode cX6_wayTo 43 = .ok (.iconst 1, 1) := by decide +kernel
theorem dX6_wayTo_44 : decode cX6_wayTo 44 = .ok (.iload_n 2, 1) := by decide +kernel
theorem dX6_wayTo_45 : decode cX6_wayTo 45 = .ok (.invokevirtual 58, 3) := by decide +kernel
theorem dX6_wayTo_48 : decode cX6_wayTo 48 = .ok (.iload_n 1, 1) := by decide +kernel
theorem dX6_wayTo_49 : decode cX6_wayTo 49 = .ok (.iconst 2, 1) := by decide +kernel
theorem dX6_wayTo_50 : decode cX6_wayTo 50 = .ok (.if_icmp .le 14, 3) := by decide +kernel
theorem dX6_wayTo_53 : decode cX6_wayTo 53 = .ok (.aload_n 0, 1) := by decide +kernel
theorem dX6_wayTo_54 : decode cX6_wayTo 54 = .ok (.bipush 16, 2) := by decide +kernel
theorem dX6_wayTo_56 : decode cX6_wayTo 56 = .ok (.iconst 2, 1) := by decide +kernel
theorem dX6_wayTo_57 : decode cX6_wayTo 57 = .ok (.invokestatic 77, 3) := by decide +kernel
theorem dX6_wayTo_60 : decode cX6_wayTo 60 = .ok (.iload_n 2, 1) := by decide +kernel
theorem dX6_wayTo_61 : decode cX6_wayTo 61 = .ok (.invokevirtual 58, 3) := by decide +kernel
theorem dX6_wayTo_64 : decode cX6_wayTo 64 = .ok (.iload_n 1, 1) := by decide +kernel
theorem dX6_wayTo_65 : decode cX6_wayTo 65 = .ok (.iconst 3, 1) := by decide +kernel
theorem dX6_wayTo_66 : decode cX6_wayTo 66 = .ok (.if_icmp .le 31, 3) := by decide +kernel
theorem dX6_wayTo_69 : decode cX6_wayTo 69 = .ok (.aload_n 0, 1) := by decide +kernel
theorem dX6_wayTo_70 : decode cX6_wayTo 70 = .ok (.bipush 17, 2) := by decide +kernel
theorem dX6_wayTo_72 : decode cX6_wayTo 72 = .ok (.bipush 12, 2) := by decide +kernel
theorem dX6_wayTo_74 : decode cX6_wayTo 74 = .ok (.invokestatic 77, 3) := by decide +kernel
theorem dX6_wayTo_77 : decode cX6_wayTo 77 = .ok (.iload_n 2, 1) := by decide +kernel
theorem dX6_wayTo_78 : decode cX6_wayTo 78 = .ok (.invokevirtual 58, 3) := by decide +kernel
theorem dX6_wayTo_81 : decode cX6_wayTo 81 = .ok (.aload_n 0, 1) := by decide +kernel
theorem dX6_wayTo_82 : decode cX6_wayTo 82 = .ok (.bipush 18, 2) := by decide +kernel
theorem dX6_wayTo_84 : decode cX6_wayTo 84 = .ok (.sipush 10007, 3) := by decide +kernel
theorem dX6_wayTo_87 : decode cX6_wayTo 87 = .ok (.bipush 12, 2) := by decide +kernel
theorem dX6_wayTo_89 : decode cX6_wayTo 89 = .ok (.invokestatic 77, 3) := by decide +kernel
theorem dX6_wayTo_92 : decode cX6_wayTo 92 = .ok (.isub, 1) := by decide +kernel
theorem dX6_wayTo_93 : decode cX6_wayTo 93 = .ok (.iload_n 2, 1) := by decide +kernel
theorem dX6_wayTo_94 : decode cX6_wayTo 94 = .ok (.invokevirtual 58, 3) := by decide +kernel
theorem dX6_wayTo_97 : decode cX6_wayTo 97 = .ok (.iload_n 1, 1) := by decide +kernel
theorem dX6_wayTo_98 : decode cX6_wayTo 98 = .ok (.iconst 4, 1) := by decide +kernel
theorem dX6_wayTo_99 : decode cX6_wayTo 99 = .ok (.if_icmp .le 19, 3) := by decide +kernel
theorem dX6_wayTo_102 : decode cX6_wayTo 102 = .ok (.aload_n 0, 1) := by decide +kernel
theorem dX6_wayTo_103 : decode cX6_wayTo 103 = .ok (.bipush 19, 2) := by decide +kernel
theorem dX6_wayTo_105 : decode cX6_wayTo 105 = .ok (.sipush 10007, 3) := by decide +kernel
theorem dX6_wayTo_108 : decode cX6_wayTo 108 = .ok (.bipush 24, 2) := by decide +kernel
theorem dX6_wayTo_110 : decode cX6_wayTo 110 = .ok (.invokestatic 77, 3) := by decide +kernel
theorem dX6_wayTo_113 : decode cX6_wayTo 113 = .ok (.isub, 1) := by decide +kernel
theorem dX6_wayTo_114 : decode cX6_wayTo 114 = .ok (.iload_n 2, 1) := by decide +kernel
theorem dX6_wayTo_115 : decode cX6_wayTo 115 = .ok (.invokevirtual 58, 3) := by decide +kernel
theorem dX6_wayTo_118 : decode cX6_wayTo 118 = .ok (.return_, 1) := by decide +kernel
theorem dX6_lowest_0 : decode cX6_lowest 0 = .ok (.iconst 2, 1) := by decide +kernel
theorem dX6_lowest_1 : decode cX6_lowest 1 = .ok (.istore_n 2, 1) := by decide +kernel
theorem dX6_lowest_2 : decode cX6_lowest 2 = .ok (.iload_n 2, 1) := by decide +kernel
theorem dX6_lowest_3 : decode cX6_lowest 3 = .ok (.bipush 7, 2) := by decide +kernel
theorem dX6_lowest_5 : decode cX6_lowest 5 = .ok (.if_icmp .ge 20, 3) := by decide +kernel
theorem dX6_lowest_8 : decode cX6_lowest 8 = .ok (.aload_n 0, 1) := by decide +kernel
theorem dX6_lowest_9 : decode cX6_lowest 9 = .ok (.iload_n 1, 1) := by decide +kernel
theorem dX6_lowest_10 : decode cX6_lowest 10 = .ok (.iload_n 2, 1) := by decide +kernel
theorem dX6_lowest_11 : decode cX6_lowest 11 = .ok (.invokevirtual 50, 3) := by decide +kernel
theorem dX6_lowest_14 : decode cX6_lowest 14 = .ok (.ifCond .eq 5, 3) := by decide +kernel
theorem dX6_lowest_17 : decode cX6_lowest 17 = .ok (.iload_n 2, 1) := by decide +kernel
theorem dX6_lowest_18 : decode cX6_lowest 18 = .ok (.ireturn, 1) := by decide +kernel
theorem dX6_lowest_19 : decode cX6_lowest 19 = .ok (.iinc 2 1, 3) := by decide +kernel
theorem dX6_lowest_22 : decode cX6_lowest 22 = .ok (.goto (-20), 3) := by decide +kernel
theorem dX6_lowest_25 : decode cX6_lowest 25 = .ok (.iconst (-1), 1) := by decide +kernel
theorem dX6_lowest_26 : decode cX6_lowest 26 = .ok (.ireturn, 1) := by decide +kernel
theorem dX6_lowestApart_0 : decode cX6_lowestApart 0 = .ok (.iconst 2, 1) := by decide +kernel
theorem dX6_lowestApart_1 : decode cX6_lowestApart 1 = .ok (.istore_n 3, 1) := by decide +kernel
theorem dX6_lowestApart_2 : decode cX6_lowestApart 2 = .ok (.iload_n 3, 1) := by decide +kernel
theorem dX6_lowestApart_3 : decode cX6_lowestApart 3 = .ok (.bipush 7, 2) := by decide +kernel
theorem dX6_lowestApart_5 : decode cX6_lowestApart 5 = .ok (.if_icmp .ge 26, 3) := by decide +kernel
theorem dX6_lowestApart_8 : decode cX6_lowestApart 8 = .ok (.aload_n 0, 1) := by decide +kernel
theorem dX6_lowestApart_9 : decode cX6_lowestApart 9 = .ok (.iload_n 1, 1) := by decide +kernel
theorem dX6_lowestApart_10 : decode cX6_lowestApart 10 = .ok (.iload_n 3, 1) := by decide +kernel
theorem dX6_lowestApart_11 : decode cX6_lowestApart 11 = .ok (.invokevirtual 50, 3) := by decide +kernel
theorem dX6_lowestApart_14 : decode cX6_lowestApart 14 = .ok (.aload_n 0, 1) := by decide +kernel
theorem dX6_lowestApart_15 : decode cX6_lowestApart 15 = .ok (.iload_n 2, 1) := by decide +kernel
theorem dX6_lowestApart_16 : decode cX6_lowestApart 16 = .ok (.iload_n 3, 1) := by decide +kernel
theorem dX6_lowestApart_17 : decode cX6_lowestApart 17 = .ok (.invokevirtual 50, 3) := by decide +kernel
theorem dX6_lowestApart_20 : decode cX6_lowestApart 20 = .ok (.if_icmp .eq 5, 3) := by decide +kernel
theorem dX6_lowestApart_23 : decode cX6_lowestApart 23 = .ok (.iload_n 3, 1) := by decide +kernel
theorem dX6_lowestApart_24 : decode cX6_lowestApart 24 = .ok (.ireturn, 1) := by decide +kernel
theorem dX6_lowestApart_25 : decode cX6_lowestApart 25 = .ok (.iinc 3 1, 3) := by decide +kernel
theorem dX6_lowestApart_28 : decode cX6_lowestApart 28 = .ok (.goto (-26), 3) := by decide +kernel
theorem dX6_lowestApart_31 : decode cX6_lowestApart 31 = .ok (.iconst (-1), 1) := by decide +kernel
theorem dX6_lowestApart_32 : decode cX6_lowestApart 32 = .ok (.ireturn, 1) := by decide +kernel
theorem dX6_cut_0 : decode cX6_cut 0 = .ok (.aload_n 0, 1) := by decide +kernel
theorem dX6_cut_1 : decode cX6_cut 1 = .ok (.iload_n 1, 1) := by decide +kernel
theorem dX6_cut_2 : decode cX6_cut 2 = .ok (.iconst 2, 1) := by decide +kernel
theorem dX6_cut_3 : decode cX6_cut 3 = .ok (.bipush 6, 2) := by decide +kernel
theorem dX6_cut_5 : decode cX6_cut 5 = .ok (.invokestatic 38, 3) := by decide +kernel
theorem dX6_cut_8 : decode cX6_cut 8 = .ok (.ifCond .eq 7, 3) := by decide +kernel
theorem dX6_cut_11 : decode cX6_cut 11 = .ok (.iconst 0, 1) := by decide +kernel
theorem dX6_cut_12 : decode cX6_cut 12 = .ok (.goto 4, 3) := by decide +kernel
theorem dX6_cut_15 : decode cX6_cut 15 = .ok (.iconst 1, 1) := by decide +kernel
theorem dX6_cut_16 : decode cX6_cut 16 = .ok (.putfield 31, 3) := by decide +kernel
theorem dX6_cut_19 : decode cX6_cut 19 = .ok (.aload_n 0, 1) := by decide +kernel
theorem dX6_cut_20 : decode cX6_cut 20 = .ok (.getfield 31, 3) := by decide +kernel
theorem dX6_cut_23 : decode cX6_cut 23 = .ok (.ifCond .le 5, 3) := by decide +kernel
theorem dX6_cut_26 : decode cX6_cut 26 = .ok (.iconst 0, 1) := by decide +kernel
theorem dX6_cut_27 : decode cX6_cut 27 = .ok (.ireturn, 1) := by decide +kernel
theorem dX6_cut_28 : decode cX6_cut 28 = .ok (.aload_n 0, 1) := by decide +kernel
theorem dX6_cut_29 : decode cX6_cut 29 = .ok (.invokevirtual 87, 3) := by decide +kernel
theorem dX6_cut_32 : decode cX6_cut 32 = .ok (.aload_n 0, 1) := by decide +kernel
theorem dX6_cut_33 : decode cX6_cut 33 = .ok (.getfield 7, 3) := by decide +kernel
theorem dX6_cut_36 : decode cX6_cut 36 = .ok (.iconst 0, 1) := by decide +kernel
theorem dX6_cut_37 : decode cX6_cut 37 = .ok (.iaload, 1) := by decide +kernel
theorem dX6_cut_38 : decode cX6_cut 38 = .ok (.istore_n 2, 1) := by decide +kernel
theorem dX6_cut_39 : decode cX6_cut 39 = .ok (.aload_n 0, 1) := by decide +kernel
theorem dX6_cut_40 : decode cX6_cut 40 = .ok (.getfield 7, 3) := by decide +kernel
theorem dX6_cut_43 : decode cX6_cut 43 = .ok (.iconst 0, 1) := by decide +kernel
theorem dX6_cut_44 : decode cX6_cut 44 = .ok (.iload_n 1, 1) := by decide +kernel
theorem dX6_cut_45 : decode cX6_cut 45 = .ok (.iastore, 1) := by decide +kernel
theorem dX6_cut_46 : decode cX6_cut 46 = .ok (.iconst 0, 1) := by decide +kernel
theorem dX6_cut_47 : decode cX6_cut 47 = .ok (.istore_n 3, 1) := by decide +kernel
theorem dX6_cut_48 : decode cX6_cut 48 = .ok (.iload_n 3, 1) := by decide +kernel
theorem dX6_cut_49 : decode cX6_cut 49 = .ok (.bipush 84, 2) := by decide +kernel
theorem dX6_cut_51 : decode cX6_cut 51 = .ok (.if_icmp .ge 37, 3) := by decide +kernel
theorem dX6_cut_54 : decode cX6_cut 54 = .ok (.aload_n 0, 1) := by decide +kernel
theorem dX6_cut_55 : decode cX6_cut 55 = .ok (.getfield 7, 3) := by decide +kernel
theorem dX6_cut_58 : decode cX6_cut 58 = .ok (.iconst 5, 1) := by decide +kernel
theorem dX6_cut_59 : decode cX6_cut 59 = .ok (.iload_n 3, 1) := by decide +kernel
theorem dX6_cut_60 : decode cX6_cut 60 = .ok (.iadd, 1) := by decide +kernel
theorem dX6_cut_61 : decode cX6_cut 61 = .ok (.iload_n 3, 1) := by decide +kernel
theorem dX6_cut_62 : decode cX6_cut 62 = .ok (.bipush 7, 2) := by decide +kernel
theorem dX6_cut_64 : decode cX6_cut 64 = .ok (.irem, 1) := by decide +kernel
theorem dX6_cut_65 : decode cX6_cut 65 = .ok (.iload_n 1, 1) := by decide +kernel
theorem dX6_cut_66 : decode cX6_cut 66 = .ok (.if_icmp .le 7, 3) := by decide +kernel
theorem dX6_cut_69 : decode cX6_cut 69 = .ok (.iconst 0, 1) := by decide +kernel
theorem dX6_cut_70 : decode cX6_cut 70 = .ok (.goto 11, 3) := by decide +kernel
theorem dX6_cut_73 : decode cX6_cut 73 = .ok (.aload_n 0, 1) := by decide +kernel
theorem dX6_cut_74 : decode cX6_cut 74 = .ok (.getfield 7, 3) := by decide +kernel
theorem dX6_cut_77 : decode cX6_cut 77 = .ok (.iconst 5, 1) := by decide +kernel
theorem dX6_cut_78 : decode cX6_cut 78 = .ok (.iload_n 3, 1) := by decide +kernel
theorem dX6_cut_79 : decode cX6_cut 79 = .ok (.iadd, 1) := by decide +kernel
theorem dX6_cut_80 : decode cX6_cut 80 = .ok (.iaload, 1) := by decide +kernel
theorem dX6_cut_81 : decode cX6_cut 81 = .ok (.iastore, 1) := by decide +kernel
theorem dX6_cut_82 : decode cX6_cut 82 = .ok (.iinc 3 1, 3) := by decide +kernel
theorem dX6_cut_85 : decode cX6_cut 85 = .ok (.goto (-37), 3) := by decide +kernel
theorem dX6_cut_88 : decode cX6_cut 88 = .ok (.iload_n 2, 1) := by decide +kernel
theorem dX6_cut_89 : decode cX6_cut 89 = .ok (.ireturn, 1) := by decide +kernel
theorem dX6_setsCoefficient_0 : decode cX6_setsCoefficient 0 = .ok (.aload_n 0, 1) := by decide +kernel
theorem dX6_setsCoefficient_1 : decode cX6_setsCoefficient 1 = .ok (.invokevirtual 87, 3) := by decide +kernel
theorem dX6_setsCoefficient_4 : decode cX6_setsCoefficient 4 = .ok (.aload_n 0, 1) := by decide +kernel
theorem dX6_setsCoefficient_5 : decode cX6_setsCoefficient 5 = .ok (.getfield 7, 3) := by decide +kernel
theorem dX6_setsCoefficient_8 : decode cX6_setsCoefficient 8 = .ok (.iload_n 1, 1) := by decide +kernel
theorem dX6_setsCoefficient_9 : decode cX6_setsCoefficient 9 = .ok (.iaload, 1) := by decide +kernel
theorem dX6_setsCoefficient_10 : decode cX6_setsCoefficient 10 = .ok (.istore_n 3, 1) := by decide +kernel
theorem dX6_setsCoefficient_11 : decode cX6_setsCoefficient 11 = .ok (.aload_n 0, 1) := by decide +kernel
theorem dX6_setsCoefficient_12 : decode cX6_setsCoefficient 12 = .ok (.getfield 7, 3) := by decide +kernel
theorem dX6_setsCoefficient_15 : decode cX6_setsCoefficient 15 = .ok (.iload_n 1, 1) := by decide +kernel
theorem dX6_setsCoefficient_16 : decode cX6_setsCoefficient 16 = .ok (.iload_n 2, 1) := by decide +kernel
theorem dX6_setsCoefficient_17 : decode cX6_setsCoefficient 17 = .ok (.invokestatic 90, 3) := by decide +kernel
theorem dX6_setsCoefficient_20 : decode cX6_setsCoefficient 20 = .ok (.iastore, 1) := by decide +kernel
theorem dX6_setsCoefficient_21 : decode cX6_setsCoefficient 21 = .ok (.iload_n 3, 1) := by decide +kernel
theorem dX6_setsCoefficient_22 : decode cX6_setsCoefficient 22 = .ok (.ireturn, 1) := by decide +kernel
theorem dX6_isPower_0 : decode cX6_isPower 0 = .ok (.iload_n 1, 1) := by decide +kernel
theorem dX6_isPower_1 : decode cX6_isPower 1 = .ok (.iconst 2, 1) := by decide +kernel
theorem dX6_isPower_2 : decode cX6_isPower 2 = .ok (.aload_n 0, 1) := by decide +kernel
theorem dX6_isPower_3 : decode cX6_isPower 3 = .ok (.getfield 7, 3) := by decide +kernel
theorem dX6_isPower_6 : decode cX6_isPower 6 = .ok (.iconst 0, 1) := by decide +kernel
theorem dX6_isPower_7 : decode cX6_isPower 7 = .ok (.iaload, 1) := by decide +kernel
theorem dX6_isPower_8 : decode cX6_isPower 8 = .ok (.invokestatic 38, 3) := by decide +kernel
theorem dX6_isPower_11 : decode cX6_isPower 11 = .ok (.ireturn, 1) := by decide +kernel
theorem dX6_setField_0 : decode cX6_setField 0 = .ok (.aload_n 0, 1) := by decide +kernel
theorem dX6_setField_1 : decode cX6_setField 1 = .ok (.iload_n 1, 1) := by decide +kernel
theorem dX6_setField_2 : decode cX6_setField 2 = .ok (.invokestatic 42, 3) := by decide +kernel
theorem dX6_setField_5 : decode cX6_setField 5 = .ok (.ifCond .eq 15, 3) := by decide +kernel
theorem dX6_setField_8 : decode cX6_setField 8 = .ok (.aload_n 0, 1) := by decide +kernel
theorem dX6_setField_9 : decode cX6_setField 9 = .ok (.iload_n 2, 1) := by decide +kernel
theorem dX6_setField_10 : decode cX6_setField 10 = .ok (.invokevirtual 93, 3) := by decide +kernel
theorem dX6_setField_13 : decode cX6_setField 13 = .ok (.ifCond .eq 7, 3) := by decide +kernel
theorem dX6_setField_16 : decode cX6_setField 16 = .ok (.iconst 0, 1) := by decide +kernel
theorem dX6_setField_17 : decode cX6_setField 17 = .ok (.goto 4, 3) := by decide +kernel
theorem dX6_setField_20 : decode cX6_setField 20 = .ok (.iconst 1, 1) := by decide +kernel
theorem dX6_setField_21 : decode cX6_setField 21 = .ok (.putfield 31, 3) := by decide +kernel
theorem dX6_setField_24 : decode cX6_setField 24 = .ok (.aload_n 0, 1) := by decide +kernel
theorem dX6_setField_25 : decode cX6_setField 25 = .ok (.getfield 31, 3) := by decide +kernel
theorem dX6_setField_28 : decode cX6_setField 28 = .ok (.ifCond .le 7, 3) := by decide +kernel
theorem dX6_setField_31 : decode cX6_setField 31 = .ok (.iconst 0, 1) := by decide +kernel
theorem dX6_setField_32 : decode cX6_setField 32 = .ok (.goto 16, 3) := by decide +kernel
theorem dX6_setField_35 : decode cX6_setField 35 = .ok (.aload_n 0, 1) := by decide +kernel
theorem dX6_setField_36 : decode cX6_setField 36 = .ok (.iconst 5, 1) := by decide +kernel
theorem dX6_setField_37 : decode cX6_setField 37 = .ok (.bipush 7, 2) := by decide +kernel
theorem dX6_setField_39 : decode cX6_setField 39 = .ok (.iload_n 1, 1) := by decide +kernel
theorem dX6_setField_40 : decode cX6_setField 40 = .ok (.imul, 1) := by decide +kernel
theorem dX6_setField_41 : decode cX6_setField 41 = .ok (.iadd, 1) := by decide +kernel
theorem dX6_setField_42 : decode cX6_setField 42 = .ok (.iload_n 2, 1) := by decide +kernel
theorem dX6_setField_43 : decode cX6_setField 43 = .ok (.iadd, 1) := by decide +kernel
theorem dX6_setField_44 : decode cX6_setField 44 = .ok (.iload_n 3, 1) := by decide +kernel
theorem dX6_setField_45 : decode cX6_setField 45 = .ok (.invokevirtual 96, 3) := by decide +kernel
theorem dX6_setField_48 : decode cX6_setField 48 = .ok (.ireturn, 1) := by decide +kernel
theorem dX6_setFlow_0 : decode cX6_setFlow 0 = .ok (.aload_n 0, 1) := by decide +kernel
theorem dX6_setFlow_1 : decode cX6_setFlow 1 = .ok (.iload_n 1, 1) := by decide +kernel
theorem dX6_setFlow_2 : decode cX6_setFlow 2 = .ok (.invokestatic 42, 3) := by decide +kernel
theorem dX6_setFlow_5 : decode cX6_setFlow 5 = .ok (.ifCond .eq 15, 3) := by decide +kernel
theorem dX6_setFlow_8 : decode cX6_setFlow 8 = .ok (.aload_n 0, 1) := by decide +kernel
theorem dX6_setFlow_9 : decode cX6_setFlow 9 = .ok (.iload_n 2, 1) := by decide +kernel
theorem dX6_setFlow_10 : decode cX6_setFlow 10 = .ok (.invokevirtual 93, 3) := by decide +kernel
theorem dX6_setFlow_13 : decode cX6_setFlow 13 = .ok (.ifCond .eq 7, 3) := by decide +kernel
theorem dX6_setFlow_16 : decode cX6_setFlow 16 = .ok (.iconst 0, 1) := by decide +kernel
theorem dX6_setFlow_17 : decode cX6_setFlow 17 = .ok (.goto 4, 3) := by decide +kernel
theorem dX6_setFlow_20 : decode cX6_setFlow 20 = .ok (.iconst 1, 1) := by decide +kernel
theorem dX6_setFlow_21 : decode cX6_setFlow 21 = .ok (.putfield 31, 3) := by decide +kernel
theorem dX6_setFlow_24 : decode cX6_setFlow 24 = .ok (.aload_n 0, 1) := by decide +kernel
theorem dX6_setFlow_25 : decode cX6_setFlow 25 = .ok (.getfield 31, 3) := by decide +kernel
theorem dX6_setFlow_28 : decode cX6_setFlow 28 = .ok (.ifCond .le 7, 3) := by decide +kernel
theorem dX6_setFlow_31 : decode cX6_setFlow 31 = .ok (.iconst 0, 1) := by decide +kernel
theorem dX6_setFlow_32 : decode cX6_setFlow 32 = .ok (.goto 17, 3) := by decide +kernel
theorem dX6_setFlow_35 : decode cX6_setFlow 35 = .ok (.aload_n 0, 1) := by decide +kernel
theorem dX6_setFlow_36 : decode cX6_setFlow 36 = .ok (.bipush 47, 2) := by decide +kernel
theorem dX6_setFlow_38 : decode cX6_setFlow 38 = .ok (.bipush 7, 2) := by decide +kernel
theorem dX6_setFlow_40 : decode cX6_setFlow 40 = .ok (.iload_n 1, 1) := by decide +kernel
theorem dX6_setFlow_41 : decode cX6_setFlow 41 = .ok (.imul, 1) := by decide +kernel
theorem dX6_setFlow_42 : decode cX6_setFlow 42 = .ok (.iadd, 1) := by decide +kernel
theorem dX6_setFlow_43 : decode cX6_setFlow 43 = .ok (.iload_n 2, 1) := by decide +kernel
theorem dX6_setFlow_44 : decode cX6_setFlow 44 = .ok (.iadd, 1) := by decide +kernel
theorem dX6_setFlow_45 : decode cX6_setFlow 45 = .ok (.iload_n 3, 1) := by decide +kernel
theorem dX6_setFlow_46 : decode cX6_setFlow 46 = .ok (.invokevirtual 96, 3) := by decide +kernel
theorem dX6_setFlow_49 : decode cX6_setFlow 49 = .ok (.ireturn, 1) := by decide +kernel
theorem dX6_earn_0 : decode cX6_earn 0 = .ok (.aload_n 0, 1) := by decide +kernel
theorem dX6_earn_1 : decode cX6_earn 1 = .ok (.iload_n 1, 1) := by decide +kernel
theorem dX6_earn_2 : decode cX6_earn 2 = .ok (.iconst 1, 1) := by decide +kernel
theorem dX6_earn_3 : decode cX6_earn 3 = .ok (.sipush 1000, 3) := by decide +kernel
theorem dX6_earn_6 : decode cX6_earn 6 = .ok (.invokestatic 38, 3) := by decide +kernel
theorem dX6_earn_9 : decode cX6_earn 9 = .ok (.ifCond .ne 7, 3) := by decide +kernel
theorem dX6_earn_12 : decode cX6_earn 12 = .ok (.iconst 1, 1) := by decide +kernel
theorem dX6_earn_13 : decode cX6_earn 13 = .ok (.goto 21, 3) := by decide +kernel
theorem dX6_earn_16 : decode cX6_earn 16 = .ok (.aload_n 0, 1) := by decide +kernel
theorem dX6_earn_17 : decode cX6_earn 17 = .ok (.getfield 7, 3) := by decide +kernel
theorem dX6_earn_20 : decode cX6_earn 20 = .ok (.iconst 1, 1) := by decide +kernel
theorem dX6_earn_21 : decode cX6_earn 21 = .ok (.iaload, 1) := by decide +kernel
theorem dX6_earn_22 : decode cX6_earn 22 = .ok (.iload_n 1, 1) := by decide +kernel
theorem dX6_earn_23 : decode cX6_earn 23 = .ok (.iadd, 1) := by decide +kernel
theorem dX6_earn_24 : decode cX6_earn 24 = .ok (.ldc 99, 2) := by decide +kernel
theorem dX6_earn_26 : decode cX6_earn 26 = .ok (.if_icmp .le 7, 3) := by decide +kernel
theorem dX6_earn_29 : decode cX6_earn 29 = .ok (.iconst 2, 1) := by decide +kernel
theorem dX6_earn_30 : decode cX6_earn 30 = .ok (.goto 4, 3) := by decide +kernel
theorem dX6_earn_33 : decode cX6_earn 33 = .ok (.iconst 0, 1) := by decide +kernel
theorem dX6_earn_34 : decode cX6_earn 34 = .ok (.putfield 31, 3) := by decide +kernel
theorem dX6_earn_37 : decode cX6_earn 37 = .ok (.aload_n 0, 1) := by decide +kernel
theorem dX6_earn_38 : decode cX6_earn 38 = .ok (.getfield 31, 3) := by decide +kernel
theorem dX6_earn_41 : decode cX6_earn 41 = .ok (.ifCond .le 5, 3) := by decide +kernel
theorem dX6_earn_44 : decode cX6_earn 44 = .ok (.iconst 0, 1) := by decide +kernel
theorem dX6_earn_45 : decode cX6_earn 45 = .ok (.ireturn, 1) := by decide +kernel
theorem dX6_earn_46 : decode cX6_earn 46 = .ok (.aload_n 0, 1) := by decide +kernel
theorem dX6_earn_47 : decode cX6_earn 47 = .ok (.invokevirtual 87, 3) := by decide +kernel
theorem dX6_earn_50 : decode cX6_earn 50 = .ok (.aload_n 0, 1) := by decide +kernel
theorem dX6_earn_51 : decode cX6_earn 51 = .ok (.getfield 7, 3) := by decide +kernel
theorem dX6_earn_54 : decode cX6_earn 54 = .ok (.iconst 1, 1) := by decide +kernel
theorem dX6_earn_55 : decode cX6_earn 55 = .ok (.dup2, 1) := by decide +kernel
theorem dX6_earn_56 : decode cX6_earn 56 = .ok (.iaload, 1) := by decide +kernel
theorem dX6_earn_57 : decode cX6_earn 57 = .ok (.iload_n 1, 1) := by decide +kernel
theorem dX6_earn_58 : decode cX6_earn 58 = .ok (.iadd, 1) := by decide +kernel
theorem dX6_earn_59 : decode cX6_earn 59 = .ok (.iastore, 1) := by decide +kernel
theorem dX6_earn_60 : decode cX6_earn 60 = .ok (.aload_n 0, 1) := by decide +kernel
theorem dX6_earn_61 : decode cX6_earn 61 = .ok (.getfield 7, 3) := by decide +kernel
theorem dX6_earn_64 : decode cX6_earn 64 = .ok (.iconst 1, 1) := by decide +kernel
theorem dX6_earn_65 : decode cX6_earn 65 = .ok (.iaload, 1) := by decide +kernel
theorem dX6_earn_66 : decode cX6_earn 66 = .ok (.ireturn, 1) := by decide +kernel
theorem dX6_canPay_0 : decode cX6_canPay 0 = .ok (.aload_n 0, 1) := by decide +kernel
theorem dX6_canPay_1 : decode cX6_canPay 1 = .ok (.getfield 7, 3) := by decide +kernel
theorem dX6_canPay_4 : decode cX6_canPay 4 = .ok (.iconst 1, 1) := by decide +kernel
theorem dX6_canPay_5 : decode cX6_canPay 5 = .ok (.iaload, 1) := by decide +kernel
theorem dX6_canPay_6 : decode cX6_canPay 6 = .ok (.aload_n 0, 1) := by decide +kernel
theorem dX6_canPay_7 : decode cX6_canPay 7 = .ok (.getfield 7, 3) := by decide +kernel
theorem dX6_canPay_10 : decode cX6_canPay 10 = .ok (.iconst 0, 1) := by decide +kernel
theorem dX6_canPay_11 : decode cX6_canPay 11 = .ok (.iaload, 1) := by decide +kernel
theorem dX6_canPay_12 : decode cX6_canPay 12 = .ok (.iload_n 1, 1) := by decide +kernel
theorem dX6_canPay_13 : decode cX6_canPay 13 = .ok (.imul, 1) := by decide +kernel
theorem dX6_canPay_14 : decode cX6_canPay 14 = .ok (.if_icmp .lt 7, 3) := by decide +kernel
theorem dX6_canPay_17 : decode cX6_canPay 17 = .ok (.iconst 1, 1) := by decide +kernel
theorem dX6_canPay_18 : decode cX6_canPay 18 = .ok (.goto 4, 3) := by decide +kernel
theorem dX6_canPay_21 : decode cX6_canPay 21 = .ok (.iconst 0, 1) := by decide +kernel
theorem dX6_canPay_22 : decode cX6_canPay 22 = .ok (.ireturn, 1) := by decide +kernel
theorem dX6_pays_0 : decode cX6_pays 0 = .ok (.aload_n 0, 1) := by decide +kernel
theorem dX6_pays_1 : decode cX6_pays 1 = .ok (.getfield 7, 3) := by decide +kernel
theorem dX6_pays_4 : decode cX6_pays 4 = .ok (.iconst 1, 1) := by decide +kernel
theorem dX6_pays_5 : decode cX6_pays 5 = .ok (.dup2, 1) := by decide +kernel
theorem dX6_pays_6 : decode cX6_pays 6 = .ok (.iaload, 1) := by decide +kernel
theorem dX6_pays_7 : decode cX6_pays 7 = .ok (.aload_n 0, 1) := by decide +kernel
theorem dX6_pays_8 : decode cX6_pays 8 = .ok (.getfield 7, 3) := by decide +kernel
theorem dX6_pays_11 : decode cX6_pays 11 = .ok (.iconst 0, 1) := by decide +kernel
theorem dX6_pays_12 : decode cX6_pays 12 = .ok (.iaload, 1) := by decide +kernel
theorem dX6_pays_13 : decode cX6_pays 13 = .ok (.iload_n 1, 1) := by decide +kernel
theorem dX6_pays_14 : decode cX6_pays 14 = .ok (.imul, 1) := by decide +kernel
theorem dX6_pays_15 : decode cX6_pays 15 = .ok (.isub, 1) := by decide +kernel
theorem dX6_pays_16 : decode cX6_pays 16 = .ok (.iastore, 1) := by decide +kernel
theorem dX6_pays_17 : decode cX6_pays 17 = .ok (.aload_n 0, 1) := by decide +kernel
theorem dX6_pays_18 : decode cX6_pays 18 = .ok (.getfield 7, 3) := by decide +kernel
theorem dX6_pays_21 : decode cX6_pays 21 = .ok (.iconst 2, 1) := by decide +kernel
theorem dX6_pays_22 : decode cX6_pays 22 = .ok (.dup2, 1) := by decide +kernel
theorem dX6_pays_23 : decode cX6_pays 23 = .ok (.iaload, 1) := by decide +kernel
theorem dX6_pays_24 : decode cX6_pays 24 = .ok (.aload_n 0, 1) := by decide +kernel
theorem dX6_pays_25 : decode cX6_pays 25 = .ok (.getfield 7, 3) := by decide +kernel
theorem dX6_pays_28 : decode cX6_pays 28 = .ok (.iconst 0, 1) := by decide +kernel
theorem dX6_pays_29 : decode cX6_pays 29 = .ok (.iaload, 1) := by decide +kernel
theorem dX6_pays_30 : decode cX6_pays 30 = .ok (.iload_n 1, 1) := by decide +kernel
theorem dX6_pays_31 : decode cX6_pays 31 = .ok (.imul, 1) := by decide +kernel
theorem dX6_pays_32 : decode cX6_pays 32 = .ok (.iadd, 1) := by decide +kernel
theorem dX6_pays_33 : decode cX6_pays 33 = .ok (.iastore, 1) := by decide +kernel
theorem dX6_pays_34 : decode cX6_pays 34 = .ok (.aload_n 0, 1) := by decide +kernel
theorem dX6_pays_35 : decode cX6_pays 35 = .ok (.getfield 7, 3) := by decide +kernel
theorem dX6_pays_38 : decode cX6_pays 38 = .ok (.iconst 3, 1) := by decide +kernel
theorem dX6_pays_39 : decode cX6_pays 39 = .ok (.dup2, 1) := by decide +kernel
theorem dX6_pays_40 : decode cX6_pays 40 = .ok (.iaload, 1) := by decide +kernel
theorem dX6_pays_41 : decode cX6_pays 41 = .ok (.iconst 1, 1) := by decide +kernel
theorem dX6_pays_42 : decode cX6_pays 42 = .ok (.iadd, 1) := by decide +kernel
theorem dX6_pays_43 : decode cX6_pays 43 = .ok (.iastore, 1) := by decide +kernel
theorem dX6_pays_44 : decode cX6_pays 44 = .ok (.iconst 0, 1) := by decide +kernel
theorem dX6_pays_45 : decode cX6_pays 45 = .ok (.istore_n 3, 1) := by decide +kernel
theorem dX6_pays_46 : decode cX6_pays 46 = .ok (.iload_n 3, 1) := by decide +kernel
theorem dX6_pays_47 : decode cX6_pays 47 = .ok (.bipush 7, 2) := by decide +kernel
theorem dX6_pays_49 : decode cX6_pays 49 = .ok (.if_icmp .ge 23, 3) := by decide +kernel
theorem dX6_pays_52 : decode cX6_pays 52 = .ok (.aload_n 0, 1) := by decide +kernel
theorem dX6_pays_53 : decode cX6_pays 53 = .ok (.getfield 7, 3) := by decide +kernel
theorem dX6_pays_56 : decode cX6_pays 56 = .ok (.iload_n 2, 1) := by decide +kernel
theorem dX6_pays_57 : decode cX6_pays 57 = .ok (.iload_n 3, 1) := by decide +kernel
theorem dX6_pays_58 : decode cX6_pays 58 = .ok (.iadd, 1) := by decide +kernel
theorem dX6_pays_59 : decode cX6_pays 59 = .ok (.aload_n 0, 1) := by decide +kernel
theorem dX6_pays_60 : decode cX6_pays 60 = .ok (.iconst 2, 1) := by decide +kernel
theorem dX6_pays_61 : decode cX6_pays 61 = .ok (.iload_n 3, 1) := by decide +kernel
theorem dX6_pays_62 : decode cX6_pays 62 = .ok (.invokevirtual 50, 3) := by decide +kernel
theorem dX6_pays_65 : decode cX6_pays 65 = .ok (.iastore, 1) := by decide +kernel
theorem dX6_pays_66 : decode cX6_pays 66 = .ok (.iinc 3 1, 3) := by decide +kernel
theorem dX6_pays_69 : decode cX6_pays 69 = .ok (.goto (-23), 3) := by decide +kernel
theorem dX6_pays_72 : decode cX6_pays 72 = .ok (.aload_n 0, 1) := by decide +kernel
theorem dX6_pays_73 : decode cX6_pays 73 = .ok (.iconst 2, 1) := by decide +kernel
theorem dX6_pays_74 : decode cX6_pays 74 = .ok (.invokevirtual 100, 3) := by decide +kernel
theorem dX6_pays_77 : decode cX6_pays 77 = .ok (.ireturn, 1) := by decide +kernel
theorem dX6_ended_0 : decode cX6_ended 0 = .ok (.aload_n 0, 1) := by decide +kernel
theorem dX6_ended_1 : decode cX6_ended 1 = .ok (.invokevirtual 87, 3) := by decide +kernel
theorem dX6_ended_4 : decode cX6_ended 4 = .ok (.aload_n 0, 1) := by decide +kernel
theorem dX6_ended_5 : decode cX6_ended 5 = .ok (.iload_n 1, 1) := by decide +kernel
theorem dX6_ended_6 : decode cX6_ended 6 = .ok (.iload_n 2, 1) := by decide +kernel
theorem dX6_ended_7 : decode cX6_ended 7 = .ok (.invokevirtual 103, 3) := by decide +kernel
theorem dX6_ended_10 : decode cX6_ended 10 = .ok (.ireturn, 1) := by decide +kernel
theorem dX6_fieldAt_0 : decode cX6_fieldAt 0 = .ok (.iconst 5, 1) := by decide +kernel
theorem dX6_fieldAt_1 : decode cX6_fieldAt 1 = .ok (.bipush 7, 2) := by decide +kernel
theorem dX6_fieldAt_3 : decode cX6_fieldAt 3 = .ok (.iload_n 0, 1) := by decide +kernel
theorem dX6_fieldAt_4 : decode cX6_fieldAt 4 = .ok (.imul, 1) := by decide +kernel
theorem dX6_fieldAt_5 : decode cX6_fieldAt 5 = .ok (.iadd, 1) := by decide +kernel
theorem dX6_fieldAt_6 : decode cX6_fieldAt 6 = .ok (.ireturn, 1) := by decide +kernel
theorem dX6_flowAt_0 : decode cX6_flowAt 0 = .ok (.bipush 47, 2) := by decide +kernel
theorem dX6_flowAt_2 : decode cX6_flowAt 2 = .ok (.bipush 7, 2) := by decide +kernel
theorem dX6_flowAt_4 : decode cX6_flowAt 4 = .ok (.iload_n 0, 1) := by decide +kernel
theorem dX6_flowAt_5 : decode cX6_flowAt 5 = .ok (.imul, 1) := by decide +kernel
theorem dX6_flowAt_6 : decode cX6_flowAt 6 = .ok (.iadd, 1) := by decide +kernel
theorem dX6_flowAt_7 : decode cX6_flowAt 7 = .ok (.ireturn, 1) := by decide +kernel
theorem dX6_refused_0 : decode cX6_refused 0 = .ok (.iload_n 1, 1) := by decide +kernel
theorem dX6_refused_1 : decode cX6_refused 1 = .ok (.ifCond .ne 7, 3) := by decide +kernel
theorem dX6_refused_4 : decode cX6_refused 4 = .ok (.iconst 1, 1) := by decide +kernel
theorem dX6_refused_5 : decode cX6_refused 5 = .ok (.goto 16, 3) := by decide +kernel
theorem dX6_refused_8 : decode cX6_refused 8 = .ok (.aload_n 0, 1) := by decide +kernel
theorem dX6_refused_9 : decode cX6_refused 9 = .ok (.iload_n 2, 1) := by decide +kernel
theorem dX6_refused_10 : decode cX6_refused 10 = .ok (.invokevirtual 106, 3) := by decide +kernel
theorem dX6_refused_13 : decode cX6_refused 13 = .ok (.ifCond .eq 7, 3) := by decide +kernel
theorem dX6_refused_16 : decode cX6_refused 16 = .ok (.iconst 0, 1) := by decide +kernel
theorem dX6_refused_17 : decode cX6_refused 17 = .ok (.goto 4, 3) := by decide +kernel
theorem dX6_refused_20 : decode cX6_refused 20 = .ok (.iconst 2, 1) := by decide +kernel
theorem dX6_refused_21 : decode cX6_refused 21 = .ok (.ireturn, 1) := by decide +kernel
theorem dX6_layBracket_0 : decode cX6_layBracket 0 = .ok (.aload_n 0, 1) := by decide +kernel
theorem dX6_layBracket_1 : decode cX6_layBracket 1 = .ok (.iload_n 1, 1) := by decide +kernel
theorem dX6_layBracket_2 : decode cX6_layBracket 2 = .ok (.invokestatic 109, 3) := by decide +kernel
theorem dX6_layBracket_5 : decode cX6_layBracket 5 = .ok (.iconst 0, 1) := by decide +kernel
theorem dX6_layBracket_6 : decode cX6_layBracket 6 = .ok (.invokevirtual 112, 3) := by decide +kernel
theorem dX6_layBracket_9 : decode cX6_layBracket 9 = .ok (.aload_n 0, 1) := by decide +kernel
theorem dX6_layBracket_10 : decode cX6_layBracket 10 = .ok (.iload_n 2, 1) := by decide +kernel
theorem dX6_layBracket_11 : decode cX6_layBracket 11 = .ok (.invokestatic 109, 3) := by decide +kernel
theorem dX6_layBracket_14 : decode cX6_layBracket 14 = .ok (.iconst 1, 1) := by decide +kernel
theorem dX6_layBracket_15 : decode cX6_layBracket 15 = .ok (.invokevirtual 112, 3) := by decide +kernel
theorem dX6_layBracket_18 : decode cX6_layBracket 18 = .ok (.aload_n 0, 1) := by decide +kernel
theorem dX6_layBracket_19 : decode cX6_layBracket 19 = .ok (.iconst 0, 1) := by decide +kernel
theorem dX6_layBracket_20 : decode cX6_layBracket 20 = .ok (.iconst 1, 1) := by decide +kernel
theorem dX6_layBracket_21 : decode cX6_layBracket 21 = .ok (.iconst 2, 1) := by decide +kernel
theorem dX6_layBracket_22 : decode cX6_layBracket 22 = .ok (.invokevirtual 84, 3) := by decide +kernel
theorem dX6_layBracket_25 : decode cX6_layBracket 25 = .ok (.return_, 1) := by decide +kernel
theorem dX6_bracket_0 : decode cX6_bracket 0 = .ok (.aload_n 0, 1) := by decide +kernel
theorem dX6_bracket_1 : decode cX6_bracket 1 = .ok (.aload_n 0, 1) := by decide +kernel
theorem dX6_bracket_2 : decode cX6_bracket 2 = .ok (.iload_n 1, 1) := by decide +kernel
theorem dX6_bracket_3 : decode cX6_bracket 3 = .ok (.iload_n 2, 1) := by decide +kernel
theorem dX6_bracket_4 : decode cX6_bracket 4 = .ok (.invokestatic 115, 3) := by decide +kernel
theorem dX6_bracket_7 : decode cX6_bracket 7 = .ok (.ifCond .eq 14, 3) := by decide +kernel
theorem dX6_bracket_10 : decode cX6_bracket 10 = .ok (.iload_n 3, 1) := by decide +kernel
theorem dX6_bracket_11 : decode cX6_bracket 11 = .ok (.invokestatic 42, 3) := by decide +kernel
theorem dX6_bracket_14 : decode cX6_bracket 14 = .ok (.ifCond .eq 7, 3) := by decide +kernel
theorem dX6_bracket_17 : decode cX6_bracket 17 = .ok (.iconst 1, 1) := by decide +kernel
theorem dX6_bracket_18 : decode cX6_bracket 18 = .ok (.goto 4, 3) := by decide +kernel
theorem dX6_bracket_21 : decode cX6_bracket 21 = .ok (.iconst 0, 1) := by decide +kernel
theorem dX6_bracket_22 : decode cX6_bracket 22 = .ok (.iconst 2, 1) := by decide +kernel
theorem dX6_bracket_23 : decode cX6_bracket 23 = .ok (.invokevirtual 119, 3) := by decide +kernel
theorem dX6_bracket_26 : decode cX6_bracket 26 = .ok (.putfield 31, 3) := by decide +kernel
theorem dX6_bracket_29 : decode cX6_bracket 29 = .ok (.aload_n 0, 1) := by decide +kernel
theorem dX6_bracket_30 : decode cX6_bracket 30 = .ok (.getfield 31, 3) := by decide +kernel
theorem dX6_bracket_33 : decode cX6_bracket 33 = .ok (.ifCond .le 5, 3) := by decide +kernel
theorem dX6_bracket_36 : decode cX6_bracket 36 = .ok (.iconst 0, 1) := by decide +kernel
theorem dX6_bracket_37 : decode cX6_bracket 37 = .ok (.ireturn, 1) := by decide +kernel
theorem dX6_bracket_38 : decode cX6_bracket 38 = .ok (.aload_n 0, 1) := by decide +kernel
theorem dX6_bracket_39 : decode cX6_bracket 39 = .ok (.iload_n 1, 1) := by decide +kernel
theorem dX6_bracket_40 : decode cX6_bracket 40 = .ok (.iload_n 2, 1) := by decide +kernel
theorem dX6_bracket_41 : decode cX6_bracket 41 = .ok (.invokevirtual 123, 3) := by decide +kernel
theorem dX6_bracket_44 : decode cX6_bracket 44 = .ok (.aload_n 0, 1) := by decide +kernel
theorem dX6_bracket_45 : decode cX6_bracket 45 = .ok (.invokevirtual 87, 3) := by decide +kernel
theorem dX6_bracket_48 : decode cX6_bracket 48 = .ok (.aload_n 0, 1) := by decide +kernel
theorem dX6_bracket_49 : decode cX6_bracket 49 = .ok (.getfield 7, 3) := by decide +kernel
theorem dX6_bracket_52 : decode cX6_bracket 52 = .ok (.iconst 4, 1) := by decide +kernel
theorem dX6_bracket_53 : decode cX6_bracket 53 = .ok (.dup2, 1) := by decide +kernel
