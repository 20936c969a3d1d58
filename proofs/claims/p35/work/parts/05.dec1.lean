theorem dL_exp_72 : decode cL_exp 72 = .ok (.iinc 4 1, 3) := by decide +kernel
theorem dL_exp_75 : decode cL_exp 75 = .ok (.goto (-56), 3) := by decide +kernel
theorem dL_exp_78 : decode cL_exp 78 = .ok (.aload_n 3, 1) := by decide +kernel
theorem dL_exp_79 : decode cL_exp 79 = .ok (.areturn, 1) := by decide +kernel
theorem dL_log_0 : decode cL_log 0 = .ok (.bipush 7, 2) := by decide +kernel
theorem dL_log_2 : decode cL_log 2 = .ok (.newarray .int, 2) := by decide +kernel
theorem dL_log_4 : decode cL_log 4 = .ok (.astore_n 2, 1) := by decide +kernel
theorem dL_log_5 : decode cL_log 5 = .ok (.iconst 2, 1) := by decide +kernel
theorem dL_log_6 : decode cL_log 6 = .ok (.istore_n 3, 1) := by decide +kernel
theorem dL_log_7 : decode cL_log 7 = .ok (.iload_n 3, 1) := by decide +kernel
theorem dL_log_8 : decode cL_log 8 = .ok (.iload_n 0, 1) := by decide +kernel
theorem dL_log_9 : decode cL_log 9 = .ok (.if_icmp .gt 30, 3) := by decide +kernel
theorem dL_log_12 : decode cL_log 12 = .ok (.aload_n 2, 1) := by decide +kernel
theorem dL_log_13 : decode cL_log 13 = .ok (.iload_n 3, 1) := by decide +kernel
theorem dL_log_14 : decode cL_log 14 = .ok (.aload_n 2, 1) := by decide +kernel
theorem dL_log_15 : decode cL_log 15 = .ok (.iload_n 3, 1) := by decide +kernel
theorem dL_log_16 : decode cL_log 16 = .ok (.iaload, 1) := by decide +kernel
theorem dL_log_17 : decode cL_log 17 = .ok (.aload_n 1, 1) := by decide +kernel
theorem dL_log_18 : decode cL_log 18 = .ok (.iload_n 3, 1) := by decide +kernel
theorem dL_log_19 : decode cL_log 19 = .ok (.iaload, 1) := by decide +kernel
theorem dL_log_20 : decode cL_log 20 = .ok (.iadd, 1) := by decide +kernel
theorem dL_log_21 : decode cL_log 21 = .ok (.iload_n 0, 1) := by decide +kernel
theorem dL_log_22 : decode cL_log 22 = .ok (.aload_n 2, 1) := by decide +kernel
theorem dL_log_23 : decode cL_log 23 = .ok (.invokestatic 30, 3) := by decide +kernel
theorem dL_log_26 : decode cL_log 26 = .ok (.iload_n 3, 1) := by decide +kernel
theorem dL_log_27 : decode cL_log 27 = .ok (.iaload, 1) := by decide +kernel
theorem dL_log_28 : decode cL_log 28 = .ok (.isub, 1) := by decide +kernel
theorem dL_log_29 : decode cL_log 29 = .ok (.invokestatic 8, 3) := by decide +kernel
theorem dL_log_32 : decode cL_log 32 = .ok (.iastore, 1) := by decide +kernel
theorem dL_log_33 : decode cL_log 33 = .ok (.iinc 3 1, 3) := by decide +kernel
theorem dL_log_36 : decode cL_log 36 = .ok (.goto (-29), 3) := by decide +kernel
theorem dL_log_39 : decode cL_log 39 = .ok (.aload_n 2, 1) := by decide +kernel
theorem dL_log_40 : decode cL_log 40 = .ok (.areturn, 1) := by decide +kernel
theorem dL_inverse_0 : decode cL_inverse 0 = .ok (.bipush 7, 2) := by decide +kernel
theorem dL_inverse_2 : decode cL_inverse 2 = .ok (.newarray .int, 2) := by decide +kernel
theorem dL_inverse_4 : decode cL_inverse 4 = .ok (.astore_n 2, 1) := by decide +kernel
theorem dL_inverse_5 : decode cL_inverse 5 = .ok (.aload_n 2, 1) := by decide +kernel
theorem dL_inverse_6 : decode cL_inverse 6 = .ok (.iconst 1, 1) := by decide +kernel
theorem dL_inverse_7 : decode cL_inverse 7 = .ok (.iconst 1, 1) := by decide +kernel
theorem dL_inverse_8 : decode cL_inverse 8 = .ok (.iastore, 1) := by decide +kernel
theorem dL_inverse_9 : decode cL_inverse 9 = .ok (.iconst 2, 1) := by decide +kernel
theorem dL_inverse_10 : decode cL_inverse 10 = .ok (.istore_n 3, 1) := by decide +kernel
theorem dL_inverse_11 : decode cL_inverse 11 = .ok (.iload_n 3, 1) := by decide +kernel
theorem dL_inverse_12 : decode cL_inverse 12 = .ok (.iload_n 0, 1) := by decide +kernel
theorem dL_inverse_13 : decode cL_inverse 13 = .ok (.if_icmp .gt 27, 3) := by decide +kernel
theorem dL_inverse_16 : decode cL_inverse 16 = .ok (.aload_n 2, 1) := by decide +kernel
theorem dL_inverse_17 : decode cL_inverse 17 = .ok (.iload_n 3, 1) := by decide +kernel
theorem dL_inverse_18 : decode cL_inverse 18 = .ok (.aload_n 2, 1) := by decide +kernel
theorem dL_inverse_19 : decode cL_inverse 19 = .ok (.iload_n 3, 1) := by decide +kernel
theorem dL_inverse_20 : decode cL_inverse 20 = .ok (.iaload, 1) := by decide +kernel
theorem dL_inverse_21 : decode cL_inverse 21 = .ok (.iload_n 0, 1) := by decide +kernel
theorem dL_inverse_22 : decode cL_inverse 22 = .ok (.aload_n 1, 1) := by decide +kernel
theorem dL_inverse_23 : decode cL_inverse 23 = .ok (.aload_n 2, 1) := by decide +kernel
theorem dL_inverse_24 : decode cL_inverse 24 = .ok (.invokestatic 34, 3) := by decide +kernel
theorem dL_inverse_27 : decode cL_inverse 27 = .ok (.iload_n 3, 1) := by decide +kernel
theorem dL_inverse_28 : decode cL_inverse 28 = .ok (.iaload, 1) := by decide +kernel
theorem dL_inverse_29 : decode cL_inverse 29 = .ok (.isub, 1) := by decide +kernel
theorem dL_inverse_30 : decode cL_inverse 30 = .ok (.invokestatic 8, 3) := by decide +kernel
theorem dL_inverse_33 : decode cL_inverse 33 = .ok (.iastore, 1) := by decide +kernel
theorem dL_inverse_34 : decode cL_inverse 34 = .ok (.iinc 3 1, 3) := by decide +kernel
theorem dL_inverse_37 : decode cL_inverse 37 = .ok (.goto (-26), 3) := by decide +kernel
theorem dL_inverse_40 : decode cL_inverse 40 = .ok (.aload_n 2, 1) := by decide +kernel
theorem dL_inverse_41 : decode cL_inverse 41 = .ok (.areturn, 1) := by decide +kernel
theorem dL_power_0 : decode cL_power 0 = .ok (.bipush 7, 2) := by decide +kernel
theorem dL_power_2 : decode cL_power 2 = .ok (.newarray .int, 2) := by decide +kernel
theorem dL_power_4 : decode cL_power 4 = .ok (.astore_n 3, 1) := by decide +kernel
theorem dL_power_5 : decode cL_power 5 = .ok (.aload_n 3, 1) := by decide +kernel
theorem dL_power_6 : decode cL_power 6 = .ok (.iconst 1, 1) := by decide +kernel
theorem dL_power_7 : decode cL_power 7 = .ok (.iconst 1, 1) := by decide +kernel
theorem dL_power_8 : decode cL_power 8 = .ok (.iastore, 1) := by decide +kernel
theorem dL_power_9 : decode cL_power 9 = .ok (.iload_n 2, 1) := by decide +kernel
theorem dL_power_10 : decode cL_power 10 = .ok (.ifCond .ge 11, 3) := by decide +kernel
theorem dL_power_13 : decode cL_power 13 = .ok (.iload_n 0, 1) := by decide +kernel
theorem dL_power_14 : decode cL_power 14 = .ok (.aload_n 1, 1) := by decide +kernel
theorem dL_power_15 : decode cL_power 15 = .ok (.invokestatic 37, 3) := by decide +kernel
theorem dL_power_18 : decode cL_power 18 = .ok (.goto 4, 3) := by decide +kernel
theorem dL_power_21 : decode cL_power 21 = .ok (.aload_n 1, 1) := by decide +kernel
theorem dL_power_22 : decode cL_power 22 = .ok (.astore 4, 2) := by decide +kernel
theorem dL_power_24 : decode cL_power 24 = .ok (.iload_n 2, 1) := by decide +kernel
theorem dL_power_25 : decode cL_power 25 = .ok (.ifCond .ge 8, 3) := by decide +kernel
theorem dL_power_28 : decode cL_power 28 = .ok (.iload_n 2, 1) := by decide +kernel
theorem dL_power_29 : decode cL_power 29 = .ok (.ineg, 1) := by decide +kernel
theorem dL_power_30 : decode cL_power 30 = .ok (.goto 4, 3) := by decide +kernel
theorem dL_power_33 : decode cL_power 33 = .ok (.iload_n 2, 1) := by decide +kernel
theorem dL_power_34 : decode cL_power 34 = .ok (.istore 5, 2) := by decide +kernel
theorem dL_power_36 : decode cL_power 36 = .ok (.iload 5, 2) := by decide +kernel
theorem dL_power_38 : decode cL_power 38 = .ok (.ifCond .le 17, 3) := by decide +kernel
theorem dL_power_41 : decode cL_power 41 = .ok (.iload_n 0, 1) := by decide +kernel
theorem dL_power_42 : decode cL_power 42 = .ok (.aload_n 3, 1) := by decide +kernel
theorem dL_power_43 : decode cL_power 43 = .ok (.aload 4, 2) := by decide +kernel
theorem dL_power_45 : decode cL_power 45 = .ok (.invokestatic 34, 3) := by decide +kernel
theorem dL_power_48 : decode cL_power 48 = .ok (.astore_n 3, 1) := by decide +kernel
theorem dL_power_49 : decode cL_power 49 = .ok (.iinc 5 (-1), 3) := by decide +kernel
theorem dL_power_52 : decode cL_power 52 = .ok (.goto (-16), 3) := by decide +kernel
theorem dL_power_55 : decode cL_power 55 = .ok (.aload_n 3, 1) := by decide +kernel
theorem dL_power_56 : decode cL_power 56 = .ok (.areturn, 1) := by decide +kernel
theorem dL_way_0 : decode cL_way 0 = .ok (.iload_n 0, 1) := by decide +kernel
theorem dL_way_1 : decode cL_way 1 = .ok (.aload_n 1, 1) := by decide +kernel
theorem dL_way_2 : decode cL_way 2 = .ok (.aload_n 2, 1) := by decide +kernel
theorem dL_way_3 : decode cL_way 3 = .ok (.invokestatic 40, 3) := by decide +kernel
theorem dL_way_6 : decode cL_way 6 = .ok (.astore_n 3, 1) := by decide +kernel
theorem dL_way_7 : decode cL_way 7 = .ok (.iload_n 0, 1) := by decide +kernel
theorem dL_way_8 : decode cL_way 8 = .ok (.aload_n 1, 1) := by decide +kernel
theorem dL_way_9 : decode cL_way 9 = .ok (.aload_n 3, 1) := by decide +kernel
theorem dL_way_10 : decode cL_way 10 = .ok (.invokestatic 40, 3) := by decide +kernel
theorem dL_way_13 : decode cL_way 13 = .ok (.astore 4, 2) := by decide +kernel
theorem dL_way_15 : decode cL_way 15 = .ok (.iload_n 0, 1) := by decide +kernel
theorem dL_way_16 : decode cL_way 16 = .ok (.aload_n 2, 1) := by decide +kernel
theorem dL_way_17 : decode cL_way 17 = .ok (.aload_n 3, 1) := by decide +kernel
theorem dL_way_18 : decode cL_way 18 = .ok (.invokestatic 40, 3) := by decide +kernel
theorem dL_way_21 : decode cL_way 21 = .ok (.astore 5, 2) := by decide +kernel
theorem dL_way_23 : decode cL_way 23 = .ok (.iload_n 0, 1) := by decide +kernel
theorem dL_way_24 : decode cL_way 24 = .ok (.aload_n 2, 1) := by decide +kernel
theorem dL_way_25 : decode cL_way 25 = .ok (.aload 4, 2) := by decide +kernel
theorem dL_way_27 : decode cL_way 27 = .ok (.invokestatic 40, 3) := by decide +kernel
theorem dL_way_30 : decode cL_way 30 = .ok (.astore 6, 2) := by decide +kernel
theorem dL_way_32 : decode cL_way 32 = .ok (.aload_n 1, 1) := by decide +kernel
theorem dL_way_33 : decode cL_way 33 = .ok (.aload_n 2, 1) := by decide +kernel
theorem dL_way_34 : decode cL_way 34 = .ok (.iconst 1, 1) := by decide +kernel
theorem dL_way_35 : decode cL_way 35 = .ok (.invokestatic 22, 3) := by decide +kernel
theorem dL_way_38 : decode cL_way 38 = .ok (.astore 7, 2) := by decide +kernel
theorem dL_way_40 : decode cL_way 40 = .ok (.iconst 0, 1) := by decide +kernel
theorem dL_way_41 : decode cL_way 41 = .ok (.istore 8, 2) := by decide +kernel
theorem dL_way_43 : decode cL_way 43 = .ok (.iload 8, 2) := by decide +kernel
theorem dL_way_45 : decode cL_way 45 = .ok (.bipush 7, 2) := by decide +kernel
theorem dL_way_47 : decode cL_way 47 = .ok (.if_icmp .ge 64, 3) := by decide +kernel
theorem dL_way_50 : decode cL_way 50 = .ok (.aload 7, 2) := by decide +kernel
theorem dL_way_52 : decode cL_way 52 = .ok (.iload 8, 2) := by decide +kernel
theorem dL_way_54 : decode cL_way 54 = .ok (.aload 7, 2) := by decide +kernel
theorem dL_way_56 : decode cL_way 56 = .ok (.iload 8, 2) := by decide +kernel
theorem dL_way_58 : decode cL_way 58 = .ok (.iaload, 1) := by decide +kernel
theorem dL_way_59 : decode cL_way 59 = .ok (.aload_n 3, 1) := by decide +kernel
theorem dL_way_60 : decode cL_way 60 = .ok (.iload 8, 2) := by decide +kernel
theorem dL_way_62 : decode cL_way 62 = .ok (.iaload, 1) := by decide +kernel
theorem dL_way_63 : decode cL_way 63 = .ok (.iconst 2, 1) := by decide +kernel
theorem dL_way_64 : decode cL_way 64 = .ok (.invokestatic 26, 3) := by decide +kernel
theorem dL_way_67 : decode cL_way 67 = .ok (.iadd, 1) := by decide +kernel
theorem dL_way_68 : decode cL_way 68 = .ok (.aload 4, 2) := by decide +kernel
theorem dL_way_70 : decode cL_way 70 = .ok (.iload 8, 2) := by decide +kernel
theorem dL_way_72 : decode cL_way 72 = .ok (.iaload, 1) := by decide +kernel
theorem dL_way_73 : decode cL_way 73 = .ok (.bipush 12, 2) := by decide +kernel
theorem dL_way_75 : decode cL_way 75 = .ok (.invokestatic 26, 3) := by decide +kernel
theorem dL_way_78 : decode cL_way 78 = .ok (.iadd, 1) := by decide +kernel
theorem dL_way_79 : decode cL_way 79 = .ok (.aload 5, 2) := by decide +kernel
theorem dL_way_81 : decode cL_way 81 = .ok (.iload 8, 2) := by decide +kernel
theorem dL_way_83 : decode cL_way 83 = .ok (.iaload, 1) := by decide +kernel
theorem dL_way_84 : decode cL_way 84 = .ok (.bipush 12, 2) := by decide +kernel
theorem dL_way_86 : decode cL_way 86 = .ok (.invokestatic 26, 3) := by decide +kernel
theorem dL_way_89 : decode cL_way 89 = .ok (.isub, 1) := by decide +kernel
theorem dL_way_90 : decode cL_way 90 = .ok (.aload 6, 2) := by decide +kernel
theorem dL_way_92 : decode cL_way 92 = .ok (.iload 8, 2) := by decide +kernel
theorem dL_way_94 : decode cL_way 94 = .ok (.iaload, 1) := by decide +kernel
theorem dL_way_95 : decode cL_way 95 = .ok (.bipush 24, 2) := by decide +kernel
theorem dL_way_97 : decode cL_way 97 = .ok (.invokestatic 26, 3) := by decide +kernel
theorem dL_way_100 : decode cL_way 100 = .ok (.isub, 1) := by decide +kernel
theorem dL_way_101 : decode cL_way 101 = .ok (.invokestatic 8, 3) := by decide +kernel
theorem dL_way_104 : decode cL_way 104 = .ok (.iastore, 1) := by decide +kernel
theorem dL_way_105 : decode cL_way 105 = .ok (.iinc 8 1, 3) := by decide +kernel
theorem dL_way_108 : decode cL_way 108 = .ok (.goto (-65), 3) := by decide +kernel
theorem dL_way_111 : decode cL_way 111 = .ok (.aload 7, 2) := by decide +kernel
theorem dL_way_113 : decode cL_way 113 = .ok (.areturn, 1) := by decide +kernel
theorem dL_put_0 : decode cL_put 0 = .ok (.iconst (-1), 1) := by decide +kernel
theorem dL_put_1 : decode cL_put 1 = .ok (.istore 5, 2) := by decide +kernel
theorem dL_put_3 : decode cL_put 3 = .ok (.bipush 6, 2) := by decide +kernel
theorem dL_put_5 : decode cL_put 5 = .ok (.istore 6, 2) := by decide +kernel
theorem dL_put_7 : decode cL_put 7 = .ok (.iload 6, 2) := by decide +kernel
theorem dL_put_9 : decode cL_put 9 = .ok (.ifCond .lt 39, 3) := by decide +kernel
theorem dL_put_12 : decode cL_put 12 = .ok (.aload_n 1, 1) := by decide +kernel
theorem dL_put_13 : decode cL_put 13 = .ok (.bipush 7, 2) := by decide +kernel
theorem dL_put_15 : decode cL_put 15 = .ok (.iload_n 2, 1) := by decide +kernel
theorem dL_put_16 : decode cL_put 16 = .ok (.imul, 1) := by decide +kernel
theorem dL_put_17 : decode cL_put 17 = .ok (.iload 6, 2) := by decide +kernel
theorem dL_put_19 : decode cL_put 19 = .ok (.iadd, 1) := by decide +kernel
theorem dL_put_20 : decode cL_put 20 = .ok (.aload_n 3, 1) := by decide +kernel
theorem dL_put_21 : decode cL_put 21 = .ok (.iload 6, 2) := by decide +kernel
theorem dL_put_23 : decode cL_put 23 = .ok (.iaload, 1) := by decide +kernel
theorem dL_put_24 : decode cL_put 24 = .ok (.iastore, 1) := by decide +kernel
theorem dL_put_25 : decode cL_put 25 = .ok (.iload 6, 2) := by decide +kernel
theorem dL_put_27 : decode cL_put 27 = .ok (.iconst 1, 1) := by decide +kernel
theorem dL_put_28 : decode cL_put 28 = .ok (.if_icmp .le 14, 3) := by decide +kernel
theorem dL_put_31 : decode cL_put 31 = .ok (.aload_n 3, 1) := by decide +kernel
theorem dL_put_32 : decode cL_put 32 = .ok (.iload 6, 2) := by decide +kernel
theorem dL_put_34 : decode cL_put 34 = .ok (.iaload, 1) := by decide +kernel
theorem dL_put_35 : decode cL_put 35 = .ok (.ifCond .eq 7, 3) := by decide +kernel
theorem dL_put_38 : decode cL_put 38 = .ok (.iload 6, 2) := by decide +kernel
theorem dL_put_40 : decode cL_put 40 = .ok (.istore 5, 2) := by decide +kernel
theorem dL_put_42 : decode cL_put 42 = .ok (.iinc 6 (-1), 3) := by decide +kernel
theorem dL_put_45 : decode cL_put 45 = .ok (.goto (-38), 3) := by decide +kernel
theorem dL_put_48 : decode cL_put 48 = .ok (.aload_n 0, 1) := by decide +kernel
theorem dL_put_49 : decode cL_put 49 = .ok (.iconst 1, 1) := by decide +kernel
theorem dL_put_50 : decode cL_put 50 = .ok (.dup2, 1) := by decide +kernel
theorem dL_put_51 : decode cL_put 51 = .ok (.iaload, 1) := by decide +kernel
theorem dL_put_52 : decode cL_put 52 = .ok (.aload_n 0, 1) := by decide +kernel
theorem dL_put_53 : decode cL_put 53 = .ok (.iconst 0, 1) := by decide +kernel
theorem dL_put_54 : decode cL_put 54 = .ok (.iaload, 1) := by decide +kernel
theorem dL_put_55 : decode cL_put 55 = .ok (.iload 4, 2) := by decide +kernel
theorem dL_put_57 : decode cL_put 57 = .ok (.imul, 1) := by decide +kernel
theorem dL_put_58 : decode cL_put 58 = .ok (.isub, 1) := by decide +kernel
theorem dL_put_59 : decode cL_put 59 = .ok (.iastore, 1) := by decide +kernel
theorem dL_put_60 : decode cL_put 60 = .ok (.aload_n 0, 1) := by decide +kernel
theorem dL_put_61 : decode cL_put 61 = .ok (.iconst 2, 1) := by decide +kernel
theorem dL_put_62 : decode cL_put 62 = .ok (.dup2, 1) := by decide +kernel
theorem dL_put_63 : decode cL_put 63 = .ok (.iaload, 1) := by decide +kernel
theorem dL_put_64 : decode cL_put 64 = .ok (.aload_n 0, 1) := by decide +kernel
theorem dL_put_65 : decode cL_put 65 = .ok (.iconst 0, 1) := by decide +kernel
theorem dL_put_66 : decode cL_put 66 = .ok (.iaload, 1) := by decide +kernel
theorem dL_put_67 : decode cL_put 67 = .ok (.iload 4, 2) := by decide +kernel
theorem dL_put_69 : decode cL_put 69 = .ok (.imul, 1) := by decide +kernel
theorem dL_put_70 : decode cL_put 70 = .ok (.iadd, 1) := by decide +kernel
theorem dL_put_71 : decode cL_put 71 = .ok (.iastore, 1) := by decide +kernel
theorem dL_put_72 : decode cL_put 72 = .ok (.aload_n 0, 1) := by decide +kernel
theorem dL_put_73 : decode cL_put 73 = .ok (.iconst 3, 1) := by decide +kernel
theorem dL_put_74 : decode cL_put 74 = .ok (.dup2, 1) := by decide +kernel
theorem dL_put_75 : decode cL_put 75 = .ok (.iaload, 1) := by decide +kernel
theorem dL_put_76 : decode cL_put 76 = .ok (.iconst 1, 1) := by decide +kernel
theorem dL_put_77 : decode cL_put 77 = .ok (.iadd, 1) := by decide +kernel
theorem dL_put_78 : decode cL_put 78 = .ok (.iastore, 1) := by decide +kernel
theorem dL_put_79 : decode cL_put 79 = .ok (.aload_n 0, 1) := by decide +kernel
theorem dL_put_80 : decode cL_put 80 = .ok (.iconst 5, 1) := by decide +kernel
theorem dL_put_81 : decode cL_put 81 = .ok (.iaload, 1) := by decide +kernel
theorem dL_put_82 : decode cL_put 82 = .ok (.bipush 6, 2) := by decide +kernel
theorem dL_put_84 : decode cL_put 84 = .ok (.if_icmp .ge 10, 3) := by decide +kernel
theorem dL_put_87 : decode cL_put 87 = .ok (.aload_n 0, 1) := by decide +kernel
theorem dL_put_88 : decode cL_put 88 = .ok (.iconst 5, 1) := by decide +kernel
theorem dL_put_89 : decode cL_put 89 = .ok (.dup2, 1) := by decide +kernel
theorem dL_put_90 : decode cL_put 90 = .ok (.iaload, 1) := by decide +kernel
theorem dL_put_91 : decode cL_put 91 = .ok (.iconst 1, 1) := by decide +kernel
theorem dL_put_92 : decode cL_put 92 = .ok (.iadd, 1) := by decide +kernel
theorem dL_put_93 : decode cL_put 93 = .ok (.iastore, 1) := by decide +kernel
theorem dL_put_94 : decode cL_put 94 = .ok (.iload 5, 2) := by decide +kernel
theorem dL_put_96 : decode cL_put 96 = .ok (.ireturn, 1) := by decide +kernel
theorem dL_done_0 : decode cL_done 0 = .ok (.aload 6, 2) := by decide +kernel
theorem dL_done_2 : decode cL_done 2 = .ok (.iconst 0, 1) := by decide +kernel
theorem dL_done_3 : decode cL_done 3 = .ok (.iaload, 1) := by decide +kernel
theorem dL_done_4 : decode cL_done 4 = .ok (.istore 9, 2) := by decide +kernel
theorem dL_done_6 : decode cL_done 6 = .ok (.iload_n 1, 1) := by decide +kernel
theorem dL_done_7 : decode cL_done 7 = .ok (.ifCond .ne 7, 3) := by decide +kernel
theorem dL_done_10 : decode cL_done 10 = .ok (.iconst 2, 1) := by decide +kernel
theorem dL_done_11 : decode cL_done 11 = .ok (.goto 65, 3) := by decide +kernel
theorem dL_done_14 : decode cL_done 14 = .ok (.iload_n 1, 1) := by decide +kernel
theorem dL_done_15 : decode cL_done 15 = .ok (.iconst 3, 1) := by decide +kernel
theorem dL_done_16 : decode cL_done 16 = .ok (.if_icmp .ge 7, 3) := by decide +kernel
theorem dL_done_19 : decode cL_done 19 = .ok (.iconst 1, 1) := by decide +kernel
theorem dL_done_20 : decode cL_done 20 = .ok (.goto 56, 3) := by decide +kernel
theorem dL_done_23 : decode cL_done 23 = .ok (.iload_n 1, 1) := by decide +kernel
theorem dL_done_24 : decode cL_done 24 = .ok (.iconst 3, 1) := by decide +kernel
theorem dL_done_25 : decode cL_done 25 = .ok (.if_icmp .ne 7, 3) := by decide +kernel
theorem dL_done_28 : decode cL_done 28 = .ok (.iconst 5, 1) := by decide +kernel
theorem dL_done_29 : decode cL_done 29 = .ok (.goto 47, 3) := by decide +kernel
theorem dL_done_32 : decode cL_done 32 = .ok (.iload_n 1, 1) := by decide +kernel
theorem dL_done_33 : decode cL_done 33 = .ok (.iconst 4, 1) := by decide +kernel
theorem dL_done_34 : decode cL_done 34 = .ok (.if_icmp .ne 8, 3) := by decide +kernel
theorem dL_done_37 : decode cL_done 37 = .ok (.bipush 6, 2) := by decide +kernel
theorem dL_done_39 : decode cL_done 39 = .ok (.goto 37, 3) := by decide +kernel
theorem dL_done_42 : decode cL_done 42 = .ok (.iload_n 1, 1) := by decide +kernel
theorem dL_done_43 : decode cL_done 43 = .ok (.bipush 7, 2) := by decide +kernel
theorem dL_done_45 : decode cL_done 45 = .ok (.if_icmp .ge 7, 3) := by decide +kernel
theorem dL_done_48 : decode cL_done 48 = .ok (.iconst 4, 1) := by decide +kernel
theorem dL_done_49 : decode cL_done 49 = .ok (.goto 27, 3) := by decide +kernel
theorem dL_done_52 : decode cL_done 52 = .ok (.iload_n 1, 1) := by decide +kernel
theorem dL_done_53 : decode cL_done 53 = .ok (.bipush 7, 2) := by decide +kernel
theorem dL_done_55 : decode cL_done 55 = .ok (.if_icmp .ne 8, 3) := by decide +kernel
theorem dL_done_58 : decode cL_done 58 = .ok (.bipush 8, 2) := by decide +kernel
theorem dL_done_60 : decode cL_done 60 = .ok (.goto 16, 3) := by decide +kernel
theorem dL_done_63 : decode cL_done 63 = .ok (.iload_n 1, 1) := by decide +kernel
theorem dL_done_64 : decode cL_done 64 = .ok (.bipush 8, 2) := by decide +kernel
theorem dL_done_66 : decode cL_done 66 = .ok (.if_icmp .ne 8, 3) := by decide +kernel
theorem dL_done_69 : decode cL_done 69 = .ok (.bipush 6, 2) := by decide +kernel
theorem dL_done_71 : decode cL_done 71 = .ok (.goto 5, 3) := by decide +kernel
theorem dL_done_74 : decode cL_done 74 = .ok (.bipush 20, 2) := by decide +kernel
theorem dL_done_76 : decode cL_done 76 = .ok (.istore 10, 2) := by decide +kernel
theorem dL_done_78 : decode cL_done 78 = .ok (.aload 6, 2) := by decide +kernel
theorem dL_done_80 : decode cL_done 80 = .ok (.iconst 1, 1) := by decide +kernel
theorem dL_done_81 : decode cL_done 81 = .ok (.iaload, 1) := by decide +kernel
theorem dL_done_82 : decode cL_done 82 = .ok (.iload 9, 2) := by decide +kernel
theorem dL_done_84 : decode cL_done 84 = .ok (.iload 10, 2) := by decide +kernel
theorem dL_done_86 : decode cL_done 86 = .ok (.imul, 1) := by decide +kernel
theorem dL_done_87 : decode cL_done 87 = .ok (.if_icmp .ge 5, 3) := by decide +kernel
theorem dL_done_90 : decode cL_done 90 = .ok (.iconst 1, 1) := by decide +kernel
theorem dL_done_91 : decode cL_done 91 = .ok (.ireturn, 1) := by decide +kernel
theorem dL_done_92 : decode cL_done 92 = .ok (.iload_n 1, 1) := by decide +kernel
theorem dL_done_93 : decode cL_done 93 = .ok (.tableswitch 469 0 8 #[51, 104, 148, 192, 230, 268, 313, 351, 405], 51) := by decide +kernel
theorem dL_done_144 : decode cL_done 144 = .ok (.aload 6, 2) := by decide +kernel
theorem dL_done_146 : decode cL_done 146 = .ok (.iconst 4, 1) := by decide +kernel
theorem dL_done_147 : decode cL_done 147 = .ok (.dup2, 1) := by decide +kernel
theorem dL_done_148 : decode cL_done 148 = .ok (.iaload, 1) := by decide +kernel
theorem dL_done_149 : decode cL_done 149 = .ok (.iconst 1, 1) := by decide +kernel
theorem dL_done_150 : decode cL_done 150 = .ok (.iadd, 1) := by decide +kernel
theorem dL_done_151 : decode cL_done 151 = .ok (.iastore, 1) := by decide +kernel
theorem dL_done_152 : decode cL_done 152 = .ok (.aload_n 0, 1) := by decide +kernel
theorem dL_done_153 : decode cL_done 153 = .ok (.iload_n 2, 1) := by decide +kernel
theorem dL_done_154 : decode cL_done 154 = .ok (.iload_n 3, 1) := by decide +kernel
theorem dL_done_155 : decode cL_done 155 = .ok (.iload 4, 2) := by decide +kernel
theorem dL_done_157 : decode cL_done 157 = .ok (.invokevirtual 43, 3) := by decide +kernel
theorem dL_done_160 : decode cL_done 160 = .ok (.aload 6, 2) := by decide +kernel
theorem dL_done_162 : decode cL_done 162 = .ok (.aload 7, 2) := by decide +kernel
theorem dL_done_164 : decode cL_done 164 = .ok (.iload 4, 2) := by decide +kernel
theorem dL_done_166 : decode cL_done 166 = .ok (.iload 9, 2) := by decide +kernel
theorem dL_done_168 : decode cL_done 168 = .ok (.aload 7, 2) := by decide +kernel
theorem dL_done_170 : decode cL_done 170 = .ok (.iload_n 2, 1) := by decide +kernel
theorem dL_done_171 : decode cL_done 171 = .ok (.invokestatic 48, 3) := by decide +kernel
theorem dL_done_174 : decode cL_done 174 = .ok (.aload 7, 2) := by decide +kernel
theorem dL_done_176 : decode cL_done 176 = .ok (.iload_n 3, 1) := by decide +kernel
theorem dL_done_177 : decode cL_done 177 = .ok (.invokestatic 48, 3) := by decide +kernel
theorem dL_done_180 : decode cL_done 180 = .ok (.invokestatic 40, 3) := by decide +kernel
theorem dL_done_183 : decode cL_done 183 = .ok (.iload 10, 2) := by decide +kernel
theorem dL_done_185 : decode cL_done 185 = .ok (.invokestatic 52, 3) := by decide +kernel
theorem dL_done_188 : decode cL_done 188 = .ok (.if_icmp .ne 7, 3) := by decide +kernel
theorem dL_done_191 : decode cL_done 191 = .ok (.iconst 1, 1) := by decide +kernel
theorem dL_done_192 : decode cL_done 192 = .ok (.goto 4, 3) := by decide +kernel
theorem dL_done_195 : decode cL_done 195 = .ok (.iconst 0, 1) := by decide +kernel
theorem dL_done_196 : decode cL_done 196 = .ok (.ireturn, 1) := by decide +kernel
theorem dL_done_197 : decode cL_done 197 = .ok (.aload_n 0, 1) := by decide +kernel
theorem dL_done_198 : decode cL_done 198 = .ok (.iload_n 2, 1) := by decide +kernel
theorem dL_done_199 : decode cL_done 199 = .ok (.iload_n 3, 1) := by decide +kernel
theorem dL_done_200 : decode cL_done 200 = .ok (.iload 4, 2) := by decide +kernel
theorem dL_done_202 : decode cL_done 202 = .ok (.invokevirtual 56, 3) := by decide +kernel
theorem dL_done_205 : decode cL_done 205 = .ok (.aload 6, 2) := by decide +kernel
theorem dL_done_207 : decode cL_done 207 = .ok (.aload 7, 2) := by decide +kernel
theorem dL_done_209 : decode cL_done 209 = .ok (.iload 4, 2) := by decide +kernel
theorem dL_done_211 : decode cL_done 211 = .ok (.aload 7, 2) := by decide +kernel
theorem dL_done_213 : decode cL_done 213 = .ok (.iload_n 2, 1) := by decide +kernel
theorem dL_done_214 : decode cL_done 214 = .ok (.invokestatic 48, 3) := by decide +kernel
theorem dL_done_217 : decode cL_done 217 = .ok (.aload 7, 2) := by decide +kernel
theorem dL_done_219 : decode cL_done 219 = .ok (.iload_n 3, 1) := by decide +kernel
theorem dL_done_220 : decode cL_done 220 = .ok (.invokestatic 48, 3) := by decide +kernel
theorem dL_done_223 : decode cL_done 223 = .ok (.iconst 1, 1) := by decide +kernel
theorem dL_done_224 : decode cL_done 224 = .ok (.invokestatic 22, 3) := by decide +kernel
theorem dL_done_227 : decode cL_done 227 = .ok (.iload 10, 2) := by decide +kernel
theorem dL_done_229 : decode cL_done 229 = .ok (.invokestatic 52, 3) := by decide +kernel
theorem dL_done_232 : decode cL_done 232 = .ok (.if_icmp .ne 7, 3) := by decide +kernel
theorem dL_done_235 : decode cL_done 235 = .ok (.iconst 1, 1) := by decide +kernel
theorem dL_done_236 : decode cL_done 236 = .ok (.goto 4, 3) := by decide +kernel
theorem dL_done_239 : decode cL_done 239 = .ok (.iconst 0, 1) := by decide +kernel
theorem dL_done_240 : decode cL_done 240 = .ok (.ireturn, 1) := by decide +kernel
theorem dL_done_241 : decode cL_done 241 = .ok (.aload_n 0, 1) := by decide +kernel
theorem dL_done_242 : decode cL_done 242 = .ok (.iload_n 2, 1) := by decide +kernel
theorem dL_done_243 : decode cL_done 243 = .ok (.iload 5, 2) := by decide +kernel
theorem dL_done_245 : decode cL_done 245 = .ok (.iload 4, 2) := by decide +kernel
theorem dL_done_247 : decode cL_done 247 = .ok (.invokevirtual 59, 3) := by decide +kernel
theorem dL_done_250 : decode cL_done 250 = .ok (.aload 6, 2) := by decide +kernel
theorem dL_done_252 : decode cL_done 252 = .ok (.aload 7, 2) := by decide +kernel
theorem dL_done_254 : decode cL_done 254 = .ok (.iload 4, 2) := by decide +kernel
theorem dL_done_256 : decode cL_done 256 = .ok (.bipush 7, 2) := by decide +kernel
theorem dL_done_258 : decode cL_done 258 = .ok (.newarray .int, 2) := by decide +kernel
theorem dL_done_260 : decode cL_done 260 = .ok (.aload 7, 2) := by decide +kernel
theorem dL_done_262 : decode cL_done 262 = .ok (.iload_n 2, 1) := by decide +kernel
theorem dL_done_263 : decode cL_done 263 = .ok (.invokestatic 48, 3) := by decide +kernel
theorem dL_done_266 : decode cL_done 266 = .ok (.iload 5, 2) := by decide +kernel
theorem dL_done_268 : decode cL_done 268 = .ok (.invokestatic 22, 3) := by decide +kernel
theorem dL_done_271 : decode cL_done 271 = .ok (.iload 10, 2) := by decide +kernel
theorem dL_done_273 : decode cL_done 273 = .ok (.invokestatic 52, 3) := by decide +kernel
theorem dL_done_276 : decode cL_done 276 = .ok (.if_icmp .ne 7, 3) := by decide +kernel
theorem dL_done_279 : decode cL_done 279 = .ok (.iconst 1, 1) := by decide +kernel
theorem dL_done_280 : decode cL_done 280 = .ok (.goto 4, 3) := by decide +kernel
theorem dL_done_283 : decode cL_done 283 = .ok (.iconst 0, 1) := by decide +kernel
theorem dL_done_284 : decode cL_done 284 = .ok (.ireturn, 1) := by decide +kernel
theorem dL_done_285 : decode cL_done 285 = .ok (.aload_n 0, 1) := by decide +kernel
theorem dL_done_286 : decode cL_done 286 = .ok (.iload_n 2, 1) := by decide +kernel
theorem dL_done_287 : decode cL_done 287 = .ok (.iload 4, 2) := by decide +kernel
theorem dL_done_289 : decode cL_done 289 = .ok (.invokevirtual 62, 3) := by decide +kernel
theorem dL_done_292 : decode cL_done 292 = .ok (.aload 6, 2) := by decide +kernel
theorem dL_done_294 : decode cL_done 294 = .ok (.aload 8, 2) := by decide +kernel
theorem dL_done_296 : decode cL_done 296 = .ok (.iload 4, 2) := by decide +kernel
theorem dL_done_298 : decode cL_done 298 = .ok (.iload 9, 2) := by decide +kernel
theorem dL_done_300 : decode cL_done 300 = .ok (.aload 7, 2) := by decide +kernel
theorem dL_done_302 : decode cL_done 302 = .ok (.iload_n 2, 1) := by decide +kernel
theorem dL_done_303 : decode cL_done 303 = .ok (.invokestatic 48, 3) := by decide +kernel
theorem dL_done_306 : decode cL_done 306 = .ok (.invokestatic 30, 3) := by decide +kernel
theorem dL_done_309 : decode cL_done 309 = .ok (.iload 10, 2) := by decide +kernel
theorem dL_done_311 : decode cL_done 311 = .ok (.invokestatic 52, 3) := by decide +kernel
theorem dL_done_314 : decode cL_done 314 = .ok (.if_icmp .ne 7, 3) := by decide +kernel
theorem dL_done_317 : decode cL_done 317 = .ok (.iconst 1, 1) := by decide +kernel
theorem dL_done_318 : decode cL_done 318 = .ok (.goto 4, 3) := by decide +kernel
theorem dL_done_321 : decode cL_done 321 = .ok (.iconst 0, 1) := by decide +kernel
theorem dL_done_322 : decode cL_done 322 = .ok (.ireturn, 1) := by decide +kernel
theorem dL_done_323 : decode cL_done 323 = .ok (.aload_n 0, 1) := by decide +kernel
theorem dL_done_324 : decode cL_done 324 = .ok (.iload_n 2, 1) := by decide +kernel
theorem dL_done_325 : decode cL_done 325 = .ok (.iload 4, 2) := by decide +kernel
theorem dL_done_327 : decode cL_done 327 = .ok (.invokevirtual 64, 3) := by decide +kernel
theorem dL_done_330 : decode cL_done 330 = .ok (.aload 6, 2) := by decide +kernel
theorem dL_done_332 : decode cL_done 332 = .ok (.aload 7, 2) := by decide +kernel
theorem dL_done_334 : decode cL_done 334 = .ok (.iload 4, 2) := by decide +kernel
theorem dL_done_336 : decode cL_done 336 = .ok (.iload 9, 2) := by decide +kernel
theorem dL_done_338 : decode cL_done 338 = .ok (.aload 8, 2) := by decide +kernel
theorem dL_done_340 : decode cL_done 340 = .ok (.iload_n 2, 1) := by decide +kernel
theorem dL_done_341 : decode cL_done 341 = .ok (.invokestatic 48, 3) := by decide +kernel
theorem dL_done_344 : decode cL_done 344 = .ok (.invokestatic 67, 3) := by decide +kernel
theorem dL_done_347 : decode cL_done 347 = .ok (.iload 10, 2) := by decide +kernel
theorem dL_done_349 : decode cL_done 349 = .ok (.invokestatic 52, 3) := by decide +kernel
theorem dL_done_352 : decode cL_done 352 = .ok (.if_icmp .ne 7, 3) := by decide +kernel
theorem dL_done_355 : decode cL_done 355 = .ok (.iconst 1, 1) := by decide +kernel
theorem dL_done_356 : decode cL_done 356 = .ok (.goto 4, 3) := by decide +kernel
theorem dL_done_359 : decode cL_done 359 = .ok (.iconst 0, 1) := by decide +kernel
theorem dL_done_360 : decode cL_done 360 = .ok (.ireturn, 1) := by decide +kernel
theorem dL_done_361 : decode cL_done 361 = .ok (.aload_n 0, 1) := by decide +kernel
theorem dL_done_362 : decode cL_done 362 = .ok (.iload_n 2, 1) := by decide +kernel
theorem dL_done_363 : decode cL_done 363 = .ok (.iload_n 3, 1) := by decide +kernel
theorem dL_done_364 : decode cL_done 364 = .ok (.iload 4, 2) := by decide +kernel
theorem dL_done_366 : decode cL_done 366 = .ok (.invokevirtual 69, 3) := by decide +kernel
theorem dL_done_369 : decode cL_done 369 = .ok (.aload 6, 2) := by decide +kernel
theorem dL_done_371 : decode cL_done 371 = .ok (.aload 8, 2) := by decide +kernel
theorem dL_done_373 : decode cL_done 373 = .ok (.iload 4, 2) := by decide +kernel
theorem dL_done_375 : decode cL_done 375 = .ok (.iload 9, 2) := by decide +kernel
theorem dL_done_377 : decode cL_done 377 = .ok (.aload 8, 2) := by decide +kernel
theorem dL_done_379 : decode cL_done 379 = .ok (.iload_n 2, 1) := by decide +kernel
theorem dL_done_380 : decode cL_done 380 = .ok (.invokestatic 48, 3) := by decide +kernel
theorem dL_done_383 : decode cL_done 383 = .ok (.aload 8, 2) := by decide +kernel
theorem dL_done_385 : decode cL_done 385 = .ok (.iload_n 3, 1) := by decide +kernel
theorem dL_done_386 : decode cL_done 386 = .ok (.invokestatic 48, 3) := by decide +kernel
theorem dL_done_389 : decode cL_done 389 = .ok (.invokestatic 34, 3) := by decide +kernel
theorem dL_done_392 : decode cL_done 392 = .ok (.iload 10, 2) := by decide +kernel
theorem dL_done_394 : decode cL_done 394 = .ok (.invokestatic 52, 3) := by decide +kernel
theorem dL_done_397 : decode cL_done 397 = .ok (.if_icmp .ne 7, 3) := by decide +kernel
theorem dL_done_400 : decode cL_done 400 = .ok (.iconst 1, 1) := by decide +kernel
theorem dL_done_401 : decode cL_done 401 = .ok (.goto 4, 3) := by decide +kernel
theorem dL_done_404 : decode cL_done 404 = .ok (.iconst 0, 1) := by decide +kernel
theorem dL_done_405 : decode cL_done 405 = .ok (.ireturn, 1) := by decide +kernel
theorem dL_done_406 : decode cL_done 406 = .ok (.aload_n 0, 1) := by decide +kernel
theorem dL_done_407 : decode cL_done 407 = .ok (.iload_n 2, 1) := by decide +kernel
theorem dL_done_408 : decode cL_done 408 = .ok (.iload 4, 2) := by decide +kernel
theorem dL_done_410 : decode cL_done 410 = .ok (.invokevirtual 72, 3) := by decide +kernel
theorem dL_done_413 : decode cL_done 413 = .ok (.aload 6, 2) := by decide +kernel
theorem dL_done_415 : decode cL_done 415 = .ok (.aload 8, 2) := by decide +kernel
theorem dL_done_417 : decode cL_done 417 = .ok (.iload 4, 2) := by decide +kernel
theorem dL_done_419 : decode cL_done 419 = .ok (.iload 9, 2) := by decide +kernel
theorem dL_done_421 : decode cL_done 421 = .ok (.aload 8, 2) := by decide +kernel
theorem dL_done_423 : decode cL_done 423 = .ok (.iload_n 2, 1) := by decide +kernel
theorem dL_done_424 : decode cL_done 424 = .ok (.invokestatic 48, 3) := by decide +kernel
theorem dL_done_427 : decode cL_done 427 = .ok (.invokestatic 37, 3) := by decide +kernel
theorem dL_done_430 : decode cL_done 430 = .ok (.iload 10, 2) := by decide +kernel
theorem dL_done_432 : decode cL_done 432 = .ok (.invokestatic 52, 3) := by decide +kernel
theorem dL_done_435 : decode cL_done 435 = .ok (.if_icmp .ne 7, 3) := by decide +kernel
theorem dL_done_438 : decode cL_done 438 = .ok (.iconst 1, 1) := by decide +kernel
theorem dL_done_439 : decode cL_done 439 = .ok (.goto 4, 3) := by decide +kernel
theorem dL_done_442 : decode cL_done 442 = .ok (.iconst 0, 1) := by decide +kernel
theorem dL_done_443 : decode cL_done 443 = .ok (.ireturn, 1) := by decide +kernel
theorem dL_done_444 : decode cL_done 444 = .ok (.iload 5, 2) := by decide +kernel
theorem dL_done_446 : decode cL_done 446 = .ok (.bipush 19, 2) := by decide +kernel
theorem dL_done_448 : decode cL_done 448 = .ok (.invokestatic 75, 3) := by decide +kernel
theorem dL_done_451 : decode cL_done 451 = .ok (.bipush 9, 2) := by decide +kernel
theorem dL_done_453 : decode cL_done 453 = .ok (.isub, 1) := by decide +kernel
theorem dL_done_454 : decode cL_done 454 = .ok (.istore 11, 2) := by decide +kernel
theorem dL_done_456 : decode cL_done 456 = .ok (.aload_n 0, 1) := by decide +kernel
theorem dL_done_457 : decode cL_done 457 = .ok (.iload_n 2, 1) := by decide +kernel
theorem dL_done_458 : decode cL_done 458 = .ok (.iload 11, 2) := by decide +kernel
theorem dL_done_460 : decode cL_done 460 = .ok (.iload 4, 2) := by decide +kernel
theorem dL_done_462 : decode cL_done 462 = .ok (.invokevirtual 78, 3) := by decide +kernel
theorem dL_done_465 : decode cL_done 465 = .ok (.aload 6, 2) := by decide +kernel
theorem dL_done_467 : decode cL_done 467 = .ok (.aload 8, 2) := by decide +kernel
theorem dL_done_469 : decode cL_done 469 = .ok (.iload 4, 2) := by decide +kernel
theorem dL_done_471 : decode cL_done 471 = .ok (.iload 9, 2) := by decide +kernel
theorem dL_done_473 : decode cL_done 473 = .ok (.aload 8, 2) := by decide +kernel
theorem dL_done_475 : decode cL_done 475 = .ok (.iload_n 2, 1) := by decide +kernel
theorem dL_done_476 : decode cL_done 476 = .ok (.invokestatic 48, 3) := by decide +kernel
theorem dL_done_479 : decode cL_done 479 = .ok (.iload 11, 2) := by decide +kernel
theorem dL_done_481 : decode cL_done 481 = .ok (.invokestatic 81, 3) := by decide +kernel
theorem dL_done_484 : decode cL_done 484 = .ok (.iload 10, 2) := by decide +kernel
theorem dL_done_486 : decode cL_done 486 = .ok (.invokestatic 52, 3) := by decide +kernel
theorem dL_done_489 : decode cL_done 489 = .ok (.if_icmp .ne 7, 3) := by decide +kernel
theorem dL_done_492 : decode cL_done 492 = .ok (.iconst 1, 1) := by decide +kernel
theorem dL_done_493 : decode cL_done 493 = .ok (.goto 4, 3) := by decide +kernel
theorem dL_done_496 : decode cL_done 496 = .ok (.iconst 0, 1) := by decide +kernel
theorem dL_done_497 : decode cL_done 497 = .ok (.ireturn, 1) := by decide +kernel
theorem dL_done_498 : decode cL_done 498 = .ok (.aload 8, 2) := by decide +kernel
theorem dL_done_500 : decode cL_done 500 = .ok (.iload_n 2, 1) := by decide +kernel
theorem dL_done_501 : decode cL_done 501 = .ok (.invokestatic 48, 3) := by decide +kernel
theorem dL_done_504 : decode cL_done 504 = .ok (.astore 12, 2) := by decide +kernel
theorem dL_done_506 : decode cL_done 506 = .ok (.aload_n 0, 1) := by decide +kernel
theorem dL_done_507 : decode cL_done 507 = .ok (.iload_n 2, 1) := by decide +kernel
theorem dL_done_508 : decode cL_done 508 = .ok (.iload_n 3, 1) := by decide +kernel
theorem dL_done_509 : decode cL_done 509 = .ok (.iload 4, 2) := by decide +kernel
theorem dL_done_511 : decode cL_done 511 = .ok (.invokevirtual 84, 3) := by decide +kernel
theorem dL_done_514 : decode cL_done 514 = .ok (.aload 6, 2) := by decide +kernel
theorem dL_done_516 : decode cL_done 516 = .ok (.aload 7, 2) := by decide +kernel
theorem dL_done_518 : decode cL_done 518 = .ok (.iload 4, 2) := by decide +kernel
theorem dL_done_520 : decode cL_done 520 = .ok (.iload 9, 2) := by decide +kernel
theorem dL_done_522 : decode cL_done 522 = .ok (.iload 9, 2) := by decide +kernel
theorem dL_done_524 : decode cL_done 524 = .ok (.aload 12, 2) := by decide +kernel
theorem dL_done_526 : decode cL_done 526 = .ok (.invokestatic 37, 3) := by decide +kernel
theorem dL_done_529 : decode cL_done 529 = .ok (.iload 9, 2) := by decide +kernel
theorem dL_done_531 : decode cL_done 531 = .ok (.aload 12, 2) := by decide +kernel
theorem dL_done_533 : decode cL_done 533 = .ok (.invokestatic 14, 3) := by decide +kernel
theorem dL_done_536 : decode cL_done 536 = .ok (.aload 7, 2) := by decide +kernel
theorem dL_done_538 : decode cL_done 538 = .ok (.iload_n 3, 1) := by decide +kernel
theorem dL_done_539 : decode cL_done 539 = .ok (.invokestatic 48, 3) := by decide +kernel
theorem dL_done_542 : decode cL_done 542 = .ok (.invokestatic 18, 3) := by decide +kernel
theorem dL_done_545 : decode cL_done 545 = .ok (.invokestatic 34, 3) := by decide +kernel
theorem dL_done_548 : decode cL_done 548 = .ok (.iload 10, 2) := by decide +kernel
theorem dL_done_550 : decode cL_done 550 = .ok (.invokestatic 52, 3) := by decide +kernel
theorem dL_done_553 : decode cL_done 553 = .ok (.if_icmp .ne 7, 3) := by decide +kernel
theorem dL_done_556 : decode cL_done 556 = .ok (.iconst 1, 1) := by decide +kernel
theorem dL_done_557 : decode cL_done 557 = .ok (.goto 4, 3) := by decide +kernel
theorem dL_done_560 : decode cL_done 560 = .ok (.iconst 0, 1) := by decide +kernel
theorem dL_done_561 : decode cL_done 561 = .ok (.ireturn, 1) := by decide +kernel
theorem dL_done_562 : decode cL_done 562 = .ok (.aload_n 0, 1) := by decide +kernel
theorem dL_done_563 : decode cL_done 563 = .ok (.iload_n 2, 1) := by decide +kernel
theorem dL_done_564 : decode cL_done 564 = .ok (.iload_n 3, 1) := by decide +kernel
theorem dL_done_565 : decode cL_done 565 = .ok (.iload 4, 2) := by decide +kernel
theorem dL_done_567 : decode cL_done 567 = .ok (.invokevirtual 87, 3) := by decide +kernel
theorem dL_done_570 : decode cL_done 570 = .ok (.aload 6, 2) := by decide +kernel
theorem dL_done_572 : decode cL_done 572 = .ok (.aload 7, 2) := by decide +kernel
theorem dL_done_574 : decode cL_done 574 = .ok (.iload 4, 2) := by decide +kernel
theorem dL_done_576 : decode cL_done 576 = .ok (.iload 9, 2) := by decide +kernel
theorem dL_done_578 : decode cL_done 578 = .ok (.aload 7, 2) := by decide +kernel
theorem dL_done_580 : decode cL_done 580 = .ok (.iload_n 2, 1) := by decide +kernel
theorem dL_done_581 : decode cL_done 581 = .ok (.invokestatic 48, 3) := by decide +kernel
theorem dL_done_584 : decode cL_done 584 = .ok (.aload 7, 2) := by decide +kernel
theorem dL_done_586 : decode cL_done 586 = .ok (.iload_n 3, 1) := by decide +kernel
theorem dL_done_587 : decode cL_done 587 = .ok (.invokestatic 48, 3) := by decide +kernel
theorem dL_done_590 : decode cL_done 590 = .ok (.invokestatic 90, 3) := by decide +kernel
theorem dL_done_593 : decode cL_done 593 = .ok (.iload 10, 2) := by decide +kernel
theorem dL_done_595 : decode cL_done 595 = .ok (.invokestatic 52, 3) := by decide +kernel
theorem dL_done_598 : decode cL_done 598 = .ok (.if_icmp .ne 7, 3) := by decide +kernel
theorem dL_done_601 : decode cL_done 601 = .ok (.iconst 1, 1) := by decide +kernel
theorem dL_done_602 : decode cL_done 602 = .ok (.goto 4, 3) := by decide +kernel
theorem dL_done_605 : decode cL_done 605 = .ok (.iconst 0, 1) := by decide +kernel
theorem dL_done_606 : decode cL_done 606 = .ok (.ireturn, 1) := by decide +kernel
theorem dL_act_0 : decode cL_act 0 = .ok (.iload_n 1, 1) := by decide +kernel
theorem dL_act_1 : decode cL_act 1 = .ok (.bipush 20, 2) := by decide +kernel
theorem dL_act_3 : decode cL_act 3 = .ok (.ishr, 1) := by decide +kernel
theorem dL_act_4 : decode cL_act 4 = .ok (.bipush 20, 2) := by decide +kernel
theorem dL_act_6 : decode cL_act 6 = .ok (.invokestatic 75, 3) := by decide +kernel
theorem dL_act_9 : decode cL_act 9 = .ok (.istore 6, 2) := by decide +kernel
theorem dL_act_11 : decode cL_act 11 = .ok (.iload_n 2, 1) := by decide +kernel
theorem dL_act_12 : decode cL_act 12 = .ok (.bipush 6, 2) := by decide +kernel
theorem dL_act_14 : decode cL_act 14 = .ok (.invokestatic 75, 3) := by decide +kernel
theorem dL_act_17 : decode cL_act 17 = .ok (.istore 7, 2) := by decide +kernel
theorem dL_act_19 : decode cL_act 19 = .ok (.iload 6, 2) := by decide +kernel
theorem dL_act_21 : decode cL_act 21 = .ok (.iconst 5, 1) := by decide +kernel
theorem dL_act_22 : decode cL_act 22 = .ok (.if_icmp .ge 114, 3) := by decide +kernel
theorem dL_act_25 : decode cL_act 25 = .ok (.iconst 2, 1) := by decide +kernel
theorem dL_act_26 : decode cL_act 26 = .ok (.iload_n 2, 1) := by decide +kernel
theorem dL_act_27 : decode cL_act 27 = .ok (.iconst 3, 1) := by decide +kernel
theorem dL_act_28 : decode cL_act 28 = .ok (.ishr, 1) := by decide +kernel
theorem dL_act_29 : decode cL_act 29 = .ok (.aload_n 3, 1) := by decide +kernel
theorem dL_act_30 : decode cL_act 30 = .ok (.iconst 0, 1) := by decide +kernel
theorem dL_act_31 : decode cL_act 31 = .ok (.iaload, 1) := by decide +kernel
theorem dL_act_32 : decode cL_act 32 = .ok (.iconst 1, 1) := by decide +kernel
theorem dL_act_33 : decode cL_act 33 = .ok (.isub, 1) := by decide +kernel
theorem dL_act_34 : decode cL_act 34 = .ok (.invokestatic 75, 3) := by decide +kernel
theorem dL_act_37 : decode cL_act 37 = .ok (.iadd, 1) := by decide +kernel
theorem dL_act_38 : decode cL_act 38 = .ok (.istore 8, 2) := by decide +kernel
theorem dL_act_40 : decode cL_act 40 = .ok (.iload 6, 2) := by decide +kernel
theorem dL_act_42 : decode cL_act 42 = .ok (.iconst 3, 1) := by decide +kernel
theorem dL_act_43 : decode cL_act 43 = .ok (.if_icmp .ge 8, 3) := by decide +kernel
theorem dL_act_46 : decode cL_act 46 = .ok (.aload 4, 2) := by decide +kernel
theorem dL_act_48 : decode cL_act 48 = .ok (.goto 5, 3) := by decide +kernel
theorem dL_act_51 : decode cL_act 51 = .ok (.aload 5, 2) := by decide +kernel
theorem dL_act_53 : decode cL_act 53 = .ok (.astore 9, 2) := by decide +kernel
theorem dL_act_55 : decode cL_act 55 = .ok (.aload 9, 2) := by decide +kernel
theorem dL_act_57 : decode cL_act 57 = .ok (.bipush 7, 2) := by decide +kernel
theorem dL_act_59 : decode cL_act 59 = .ok (.iload 7, 2) := by decide +kernel
theorem dL_act_61 : decode cL_act 61 = .ok (.imul, 1) := by decide +kernel
theorem dL_act_62 : decode cL_act 62 = .ok (.iload 8, 2) := by decide +kernel
theorem dL_act_64 : decode cL_act 64 = .ok (.iadd, 1) := by decide +kernel
theorem dL_act_65 : decode cL_act 65 = .ok (.iaload, 1) := by decide +kernel
theorem dL_act_66 : decode cL_act 66 = .ok (.istore 10, 2) := by decide +kernel
theorem dL_act_68 : decode cL_act 68 = .ok (.aload 9, 2) := by decide +kernel
theorem dL_act_70 : decode cL_act 70 = .ok (.bipush 7, 2) := by decide +kernel
theorem dL_act_72 : decode cL_act 72 = .ok (.iload 7, 2) := by decide +kernel
theorem dL_act_74 : decode cL_act 74 = .ok (.imul, 1) := by decide +kernel
theorem dL_act_75 : decode cL_act 75 = .ok (.iload 8, 2) := by decide +kernel
theorem dL_act_77 : decode cL_act 77 = .ok (.iadd, 1) := by decide +kernel
theorem dL_act_78 : decode cL_act 78 = .ok (.iload_n 2, 1) := by decide +kernel
theorem dL_act_79 : decode cL_act 79 = .ok (.invokestatic 8, 3) := by decide +kernel
theorem dL_act_82 : decode cL_act 82 = .ok (.iastore, 1) := by decide +kernel
theorem dL_act_83 : decode cL_act 83 = .ok (.aload_n 3, 1) := by decide +kernel
theorem dL_act_84 : decode cL_act 84 = .ok (.iconst 5, 1) := by decide +kernel
theorem dL_act_85 : decode cL_act 85 = .ok (.iaload, 1) := by decide +kernel
theorem dL_act_86 : decode cL_act 86 = .ok (.bipush 6, 2) := by decide +kernel
theorem dL_act_88 : decode cL_act 88 = .ok (.if_icmp .ge 10, 3) := by decide +kernel
theorem dL_act_91 : decode cL_act 91 = .ok (.aload_n 3, 1) := by decide +kernel
theorem dL_act_92 : decode cL_act 92 = .ok (.iconst 5, 1) := by decide +kernel
theorem dL_act_93 : decode cL_act 93 = .ok (.dup2, 1) := by decide +kernel
theorem dL_act_94 : decode cL_act 94 = .ok (.iaload, 1) := by decide +kernel
theorem dL_act_95 : decode cL_act 95 = .ok (.iconst 1, 1) := by decide +kernel
theorem dL_act_96 : decode cL_act 96 = .ok (.iadd, 1) := by decide +kernel
theorem dL_act_97 : decode cL_act 97 = .ok (.iastore, 1) := by decide +kernel
theorem dL_act_98 : decode cL_act 98 = .ok (.iload 6, 2) := by decide +kernel
theorem dL_act_100 : decode cL_act 100 = .ok (.iconst 3, 1) := by decide +kernel
theorem dL_act_101 : decode cL_act 101 = .ok (.if_icmp .ge 15, 3) := by decide +kernel
theorem dL_act_104 : decode cL_act 104 = .ok (.aload_n 0, 1) := by decide +kernel
theorem dL_act_105 : decode cL_act 105 = .ok (.iload 7, 2) := by decide +kernel
theorem dL_act_107 : decode cL_act 107 = .ok (.iload 8, 2) := by decide +kernel
theorem dL_act_109 : decode cL_act 109 = .ok (.iload_n 2, 1) := by decide +kernel
theorem dL_act_110 : decode cL_act 110 = .ok (.invokevirtual 93, 3) := by decide +kernel
theorem dL_act_113 : decode cL_act 113 = .ok (.goto 12, 3) := by decide +kernel
theorem dL_act_116 : decode cL_act 116 = .ok (.aload_n 0, 1) := by decide +kernel
theorem dL_act_117 : decode cL_act 117 = .ok (.iload 7, 2) := by decide +kernel
theorem dL_act_119 : decode cL_act 119 = .ok (.iload 8, 2) := by decide +kernel
theorem dL_act_121 : decode cL_act 121 = .ok (.iload_n 2, 1) := by decide +kernel
theorem dL_act_122 : decode cL_act 122 = .ok (.invokevirtual 96, 3) := by decide +kernel
theorem dL_act_125 : decode cL_act 125 = .ok (.iload 10, 2) := by decide +kernel
theorem dL_act_127 : decode cL_act 127 = .ok (.if_icmp .ne 7, 3) := by decide +kernel
theorem dL_act_130 : decode cL_act 130 = .ok (.iconst 1, 1) := by decide +kernel
theorem dL_act_131 : decode cL_act 131 = .ok (.goto 4, 3) := by decide +kernel
theorem dL_act_134 : decode cL_act 134 = .ok (.iconst 0, 1) := by decide +kernel
theorem dL_act_135 : decode cL_act 135 = .ok (.ireturn, 1) := by decide +kernel
theorem dL_act_136 : decode cL_act 136 = .ok (.iload 6, 2) := by decide +kernel
theorem dL_act_138 : decode cL_act 138 = .ok (.iconst 5, 1) := by decide +kernel
theorem dL_act_139 : decode cL_act 139 = .ok (.if_icmp .ne 90, 3) := by decide +kernel
theorem dL_act_142 : decode cL_act 142 = .ok (.aload_n 3, 1) := by decide +kernel
theorem dL_act_143 : decode cL_act 143 = .ok (.iconst 0, 1) := by decide +kernel
theorem dL_act_144 : decode cL_act 144 = .ok (.iaload, 1) := by decide +kernel
theorem dL_act_145 : decode cL_act 145 = .ok (.istore 8, 2) := by decide +kernel
theorem dL_act_147 : decode cL_act 147 = .ok (.aload_n 3, 1) := by decide +kernel
theorem dL_act_148 : decode cL_act 148 = .ok (.iconst 0, 1) := by decide +kernel
theorem dL_act_149 : decode cL_act 149 = .ok (.iconst 2, 1) := by decide +kernel
theorem dL_act_150 : decode cL_act 150 = .ok (.iload_n 2, 1) := by decide +kernel
theorem dL_act_151 : decode cL_act 151 = .ok (.iconst 5, 1) := by decide +kernel
theorem dL_act_152 : decode cL_act 152 = .ok (.invokestatic 75, 3) := by decide +kernel
theorem dL_act_155 : decode cL_act 155 = .ok (.iadd, 1) := by decide +kernel
theorem dL_act_156 : decode cL_act 156 = .ok (.iastore, 1) := by decide +kernel
theorem dL_act_157 : decode cL_act 157 = .ok (.iconst 0, 1) := by decide +kernel
theorem dL_act_158 : decode cL_act 158 = .ok (.istore 9, 2) := by decide +kernel
theorem dL_act_160 : decode cL_act 160 = .ok (.iload 9, 2) := by decide +kernel
theorem dL_act_162 : decode cL_act 162 = .ok (.bipush 42, 2) := by decide +kernel
theorem dL_act_164 : decode cL_act 164 = .ok (.if_icmp .ge 32, 3) := by decide +kernel
theorem dL_act_167 : decode cL_act 167 = .ok (.iload 9, 2) := by decide +kernel
theorem dL_act_169 : decode cL_act 169 = .ok (.bipush 7, 2) := by decide +kernel
theorem dL_act_171 : decode cL_act 171 = .ok (.irem, 1) := by decide +kernel
theorem dL_act_172 : decode cL_act 172 = .ok (.aload_n 3, 1) := by decide +kernel
theorem dL_act_173 : decode cL_act 173 = .ok (.iconst 0, 1) := by decide +kernel
theorem dL_act_174 : decode cL_act 174 = .ok (.iaload, 1) := by decide +kernel
theorem dL_act_175 : decode cL_act 175 = .ok (.if_icmp .le 15, 3) := by decide +kernel
theorem dL_act_178 : decode cL_act 178 = .ok (.aload 4, 2) := by decide +kernel
theorem dL_act_180 : decode cL_act 180 = .ok (.iload 9, 2) := by decide +kernel
theorem dL_act_182 : decode cL_act 182 = .ok (.iconst 0, 1) := by decide +kernel
theorem dL_act_183 : decode cL_act 183 = .ok (.iastore, 1) := by decide +kernel
theorem dL_act_184 : decode cL_act 184 = .ok (.aload 5, 2) := by decide +kernel
theorem dL_act_186 : decode cL_act 186 = .ok (.iload 9, 2) := by decide +kernel
theorem dL_act_188 : decode cL_act 188 = .ok (.iconst 0, 1) := by decide +kernel
theorem dL_act_189 : decode cL_act 189 = .ok (.iastore, 1) := by decide +kernel
theorem dL_act_190 : decode cL_act 190 = .ok (.iinc 9 1, 3) := by decide +kernel
theorem dL_act_193 : decode cL_act 193 = .ok (.goto (-33), 3) := by decide +kernel
theorem dL_act_196 : decode cL_act 196 = .ok (.aload_n 3, 1) := by decide +kernel
theorem dL_act_197 : decode cL_act 197 = .ok (.iconst 5, 1) := by decide +kernel
theorem dL_act_198 : decode cL_act 198 = .ok (.iaload, 1) := by decide +kernel
theorem dL_act_199 : decode cL_act 199 = .ok (.bipush 6, 2) := by decide +kernel
theorem dL_act_201 : decode cL_act 201 = .ok (.if_icmp .ge 10, 3) := by decide +kernel
theorem dL_act_204 : decode cL_act 204 = .ok (.aload_n 3, 1) := by decide +kernel
theorem dL_act_205 : decode cL_act 205 = .ok (.iconst 5, 1) := by decide +kernel
theorem dL_act_206 : decode cL_act 206 = .ok (.dup2, 1) := by decide +kernel
theorem dL_act_207 : decode cL_act 207 = .ok (.iaload, 1) := by decide +kernel
theorem dL_act_208 : decode cL_act 208 = .ok (.iconst 1, 1) := by decide +kernel
theorem dL_act_209 : decode cL_act 209 = .ok (.iadd, 1) := by decide +kernel
theorem dL_act_210 : decode cL_act 210 = .ok (.iastore, 1) := by decide +kernel
theorem dL_act_211 : decode cL_act 211 = .ok (.aload_n 0, 1) := by decide +kernel
theorem dL_act_212 : decode cL_act 212 = .ok (.aload_n 3, 1) := by decide +kernel
theorem dL_act_213 : decode cL_act 213 = .ok (.iconst 0, 1) := by decide +kernel
theorem dL_act_214 : decode cL_act 214 = .ok (.iaload, 1) := by decide +kernel
theorem dL_act_215 : decode cL_act 215 = .ok (.invokevirtual 99, 3) := by decide +kernel
theorem dL_act_218 : decode cL_act 218 = .ok (.iload 8, 2) := by decide +kernel
theorem dL_act_220 : decode cL_act 220 = .ok (.if_icmp .ne 7, 3) := by decide +kernel
theorem dL_act_223 : decode cL_act 223 = .ok (.iconst 1, 1) := by decide +kernel
theorem dL_act_224 : decode cL_act 224 = .ok (.goto 4, 3) := by decide +kernel
theorem dL_act_227 : decode cL_act 227 = .ok (.iconst 0, 1) := by decide +kernel
theorem dL_act_228 : decode cL_act 228 = .ok (.ireturn, 1) := by decide +kernel
theorem dL_act_229 : decode cL_act 229 = .ok (.iload 6, 2) := by decide +kernel
theorem dL_act_231 : decode cL_act 231 = .ok (.bipush 6, 2) := by decide +kernel
theorem dL_act_233 : decode cL_act 233 = .ok (.if_icmp .ne 55, 3) := by decide +kernel
theorem dL_act_236 : decode cL_act 236 = .ok (.iconst 1, 1) := by decide +kernel
theorem dL_act_237 : decode cL_act 237 = .ok (.iload_n 2, 1) := by decide +kernel
theorem dL_act_238 : decode cL_act 238 = .ok (.sipush 300, 3) := by decide +kernel
theorem dL_act_241 : decode cL_act 241 = .ok (.invokestatic 75, 3) := by decide +kernel
theorem dL_act_244 : decode cL_act 244 = .ok (.iadd, 1) := by decide +kernel
theorem dL_act_245 : decode cL_act 245 = .ok (.istore 8, 2) := by decide +kernel
theorem dL_act_247 : decode cL_act 247 = .ok (.aload_n 3, 1) := by decide +kernel
theorem dL_act_248 : decode cL_act 248 = .ok (.iconst 1, 1) := by decide +kernel
theorem dL_act_249 : decode cL_act 249 = .ok (.dup2, 1) := by decide +kernel
theorem dL_act_250 : decode cL_act 250 = .ok (.iaload, 1) := by decide +kernel
theorem dL_act_251 : decode cL_act 251 = .ok (.iload 8, 2) := by decide +kernel
theorem dL_act_253 : decode cL_act 253 = .ok (.iadd, 1) := by decide +kernel
theorem dL_act_254 : decode cL_act 254 = .ok (.iastore, 1) := by decide +kernel
theorem dL_act_255 : decode cL_act 255 = .ok (.aload_n 3, 1) := by decide +kernel
theorem dL_act_256 : decode cL_act 256 = .ok (.iconst 5, 1) := by decide +kernel
theorem dL_act_257 : decode cL_act 257 = .ok (.iaload, 1) := by decide +kernel
theorem dL_act_258 : decode cL_act 258 = .ok (.bipush 6, 2) := by decide +kernel
theorem dL_act_260 : decode cL_act 260 = .ok (.if_icmp .ge 10, 3) := by decide +kernel
theorem dL_act_263 : decode cL_act 263 = .ok (.aload_n 3, 1) := by decide +kernel
theorem dL_act_264 : decode cL_act 264 = .ok (.iconst 5, 1) := by decide +kernel
theorem dL_act_265 : decode cL_act 265 = .ok (.dup2, 1) := by decide +kernel
theorem dL_act_266 : decode cL_act 266 = .ok (.iaload, 1) := by decide +kernel
theorem dL_act_267 : decode cL_act 267 = .ok (.iconst 1, 1) := by decide +kernel
theorem dL_act_268 : decode cL_act 268 = .ok (.iadd, 1) := by decide +kernel
theorem dL_act_269 : decode cL_act 269 = .ok (.iastore, 1) := by decide +kernel
theorem dL_act_270 : decode cL_act 270 = .ok (.aload_n 0, 1) := by decide +kernel
theorem dL_act_271 : decode cL_act 271 = .ok (.iload 8, 2) := by decide +kernel
theorem dL_act_273 : decode cL_act 273 = .ok (.invokevirtual 102, 3) := by decide +kernel
theorem dL_act_276 : decode cL_act 276 = .ok (.aload_n 3, 1) := by decide +kernel
theorem dL_act_277 : decode cL_act 277 = .ok (.iconst 1, 1) := by decide +kernel
theorem dL_act_278 : decode cL_act 278 = .ok (.iaload, 1) := by decide +kernel
theorem dL_act_279 : decode cL_act 279 = .ok (.if_icmp .ne 7, 3) := by decide +kernel
theorem dL_act_282 : decode cL_act 282 = .ok (.iconst 1, 1) := by decide +kernel
theorem dL_act_283 : decode cL_act 283 = .ok (.goto 4, 3) := by decide +kernel
theorem dL_act_286 : decode cL_act 286 = .ok (.iconst 0, 1) := by decide +kernel
theorem dL_act_287 : decode cL_act 287 = .ok (.ireturn, 1) := by decide +kernel
theorem dL_act_288 : decode cL_act 288 = .ok (.aload_n 0, 1) := by decide +kernel
theorem dL_act_289 : decode cL_act 289 = .ok (.iload_n 1, 1) := by decide +kernel
theorem dL_act_290 : decode cL_act 290 = .ok (.bipush 10, 2) := by decide +kernel
theorem dL_act_292 : decode cL_act 292 = .ok (.invokestatic 75, 3) := by decide +kernel
theorem dL_act_295 : decode cL_act 295 = .ok (.iload 7, 2) := by decide +kernel
theorem dL_act_297 : decode cL_act 297 = .ok (.iload_n 2, 1) := by decide +kernel
theorem dL_act_298 : decode cL_act 298 = .ok (.iconst 3, 1) := by decide +kernel
theorem dL_act_299 : decode cL_act 299 = .ok (.ishr, 1) := by decide +kernel
theorem dL_act_300 : decode cL_act 300 = .ok (.bipush 6, 2) := by decide +kernel
theorem dL_act_302 : decode cL_act 302 = .ok (.invokestatic 75, 3) := by decide +kernel
theorem dL_act_305 : decode cL_act 305 = .ok (.iload_n 2, 1) := by decide +kernel
theorem dL_act_306 : decode cL_act 306 = .ok (.bipush 6, 2) := by decide +kernel
theorem dL_act_308 : decode cL_act 308 = .ok (.ishr, 1) := by decide +kernel
theorem dL_act_309 : decode cL_act 309 = .ok (.bipush 6, 2) := by decide +kernel
theorem dL_act_311 : decode cL_act 311 = .ok (.invokestatic 75, 3) := by decide +kernel
theorem dL_act_314 : decode cL_act 314 = .ok (.iload_n 2, 1) := by decide +kernel
theorem dL_act_315 : decode cL_act 315 = .ok (.bipush 9, 2) := by decide +kernel
theorem dL_act_317 : decode cL_act 317 = .ok (.ishr, 1) := by decide +kernel
theorem dL_act_318 : decode cL_act 318 = .ok (.aload_n 3, 1) := by decide +kernel
theorem dL_act_319 : decode cL_act 319 = .ok (.aload 4, 2) := by decide +kernel
theorem dL_act_321 : decode cL_act 321 = .ok (.aload 5, 2) := by decide +kernel
theorem dL_act_323 : decode cL_act 323 = .ok (.invokestatic 105, 3) := by decide +kernel
theorem dL_act_326 : decode cL_act 326 = .ok (.ireturn, 1) := by decide +kernel
theorem dL_agree_0 : decode cL_agree 0 = .ok (.iconst 0, 1) := by decide +kernel
theorem dL_agree_1 : decode cL_agree 1 = .ok (.istore 4, 2) := by decide +kernel
theorem dL_agree_3 : decode cL_agree 3 = .ok (.iload 4, 2) := by decide +kernel
theorem dL_agree_5 : decode cL_agree 5 = .ok (.bipush 6, 2) := by decide +kernel
theorem dL_agree_7 : decode cL_agree 7 = .ok (.if_icmp .ge 69, 3) := by decide +kernel
theorem dL_agree_10 : decode cL_agree 10 = .ok (.iconst 0, 1) := by decide +kernel
theorem dL_agree_11 : decode cL_agree 11 = .ok (.istore 5, 2) := by decide +kernel
theorem dL_agree_13 : decode cL_agree 13 = .ok (.iload 5, 2) := by decide +kernel
theorem dL_agree_15 : decode cL_agree 15 = .ok (.bipush 7, 2) := by decide +kernel
theorem dL_agree_17 : decode cL_agree 17 = .ok (.if_icmp .ge 53, 3) := by decide +kernel
theorem dL_agree_20 : decode cL_agree 20 = .ok (.aload_n 0, 1) := by decide +kernel
theorem dL_agree_21 : decode cL_agree 21 = .ok (.iload 4, 2) := by decide +kernel
theorem dL_agree_23 : decode cL_agree 23 = .ok (.iload 5, 2) := by decide +kernel
theorem dL_agree_25 : decode cL_agree 25 = .ok (.invokevirtual 109, 3) := by decide +kernel
theorem dL_agree_28 : decode cL_agree 28 = .ok (.aload_n 2, 1) := by decide +kernel
theorem dL_agree_29 : decode cL_agree 29 = .ok (.bipush 7, 2) := by decide +kernel
theorem dL_agree_31 : decode cL_agree 31 = .ok (.iload 4, 2) := by decide +kernel
theorem dL_agree_33 : decode cL_agree 33 = .ok (.imul, 1) := by decide +kernel
theorem dL_agree_34 : decode cL_agree 34 = .ok (.iload 5, 2) := by decide +kernel
theorem dL_agree_36 : decode cL_agree 36 = .ok (.iadd, 1) := by decide +kernel
theorem dL_agree_37 : decode cL_agree 37 = .ok (.iaload, 1) := by decide +kernel
theorem dL_agree_38 : decode cL_agree 38 = .ok (.if_icmp .ne 24, 3) := by decide +kernel
theorem dL_agree_41 : decode cL_agree 41 = .ok (.aload_n 0, 1) := by decide +kernel
theorem dL_agree_42 : decode cL_agree 42 = .ok (.iload 4, 2) := by decide +kernel
theorem dL_agree_44 : decode cL_agree 44 = .ok (.iload 5, 2) := by decide +kernel
theorem dL_agree_46 : decode cL_agree 46 = .ok (.invokevirtual 112, 3) := by decide +kernel
theorem dL_agree_49 : decode cL_agree 49 = .ok (.aload_n 3, 1) := by decide +kernel
theorem dL_agree_50 : decode cL_agree 50 = .ok (.bipush 7, 2) := by decide +kernel
theorem dL_agree_52 : decode cL_agree 52 = .ok (.iload 4, 2) := by decide +kernel
theorem dL_agree_54 : decode cL_agree 54 = .ok (.imul, 1) := by decide +kernel
theorem dL_agree_55 : decode cL_agree 55 = .ok (.iload 5, 2) := by decide +kernel
theorem dL_agree_57 : decode cL_agree 57 = .ok (.iadd, 1) := by decide +kernel
theorem dL_agree_58 : decode cL_agree 58 = .ok (.iaload, 1) := by decide +kernel
theorem dL_agree_59 : decode cL_agree 59 = .ok (.if_icmp .eq 5, 3) := by decide +kernel
theorem dL_agree_62 : decode cL_agree 62 = .ok (.iconst 0, 1) := by decide +kernel
theorem dL_agree_63 : decode cL_agree 63 = .ok (.ireturn, 1) := by decide +kernel
theorem dL_agree_64 : decode cL_agree 64 = .ok (.iinc 5 1, 3) := by decide +kernel
theorem dL_agree_67 : decode cL_agree 67 = .ok (.goto (-54), 3) := by decide +kernel
theorem dL_agree_70 : decode cL_agree 70 = .ok (.iinc 4 1, 3) := by decide +kernel
theorem dL_agree_73 : decode cL_agree 73 = .ok (.goto (-70), 3) := by decide +kernel
theorem dL_agree_76 : decode cL_agree 76 = .ok (.aload_n 0, 1) := by decide +kernel
theorem dL_agree_77 : decode cL_agree 77 = .ok (.iconst 0, 1) := by decide +kernel
theorem dL_agree_78 : decode cL_agree 78 = .ok (.invokevirtual 115, 3) := by decide +kernel
theorem dL_agree_81 : decode cL_agree 81 = .ok (.aload_n 1, 1) := by decide +kernel
theorem dL_agree_82 : decode cL_agree 82 = .ok (.iconst 0, 1) := by decide +kernel
theorem dL_agree_83 : decode cL_agree 83 = .ok (.iaload, 1) := by decide +kernel
theorem dL_agree_84 : decode cL_agree 84 = .ok (.if_icmp .ne 64, 3) := by decide +kernel
theorem dL_agree_87 : decode cL_agree 87 = .ok (.aload_n 0, 1) := by decide +kernel
theorem dL_agree_88 : decode cL_agree 88 = .ok (.iconst 1, 1) := by decide +kernel
theorem dL_agree_89 : decode cL_agree 89 = .ok (.invokevirtual 115, 3) := by decide +kernel
theorem dL_agree_92 : decode cL_agree 92 = .ok (.aload_n 1, 1) := by decide +kernel
theorem dL_agree_93 : decode cL_agree 93 = .ok (.iconst 1, 1) := by decide +kernel
theorem dL_agree_94 : decode cL_agree 94 = .ok (.iaload, 1) := by decide +kernel
theorem dL_agree_95 : decode cL_agree 95 = .ok (.if_icmp .ne 53, 3) := by decide +kernel
theorem dL_agree_98 : decode cL_agree 98 = .ok (.aload_n 0, 1) := by decide +kernel
theorem dL_agree_99 : decode cL_agree 99 = .ok (.iconst 4, 1) := by decide +kernel
theorem dL_agree_100 : decode cL_agree 100 = .ok (.invokevirtual 115, 3) := by decide +kernel
theorem dL_agree_103 : decode cL_agree 103 = .ok (.aload_n 1, 1) := by decide +kernel
theorem dL_agree_104 : decode cL_agree 104 = .ok (.iconst 2, 1) := by decide +kernel
theorem dL_agree_105 : decode cL_agree 105 = .ok (.iaload, 1) := by decide +kernel
theorem dL_agree_106 : decode cL_agree 106 = .ok (.if_icmp .ne 42, 3) := by decide +kernel
theorem dL_agree_109 : decode cL_agree 109 = .ok (.aload_n 0, 1) := by decide +kernel
theorem dL_agree_110 : decode cL_agree 110 = .ok (.iconst 5, 1) := by decide +kernel
theorem dL_agree_111 : decode cL_agree 111 = .ok (.invokevirtual 115, 3) := by decide +kernel
theorem dL_agree_114 : decode cL_agree 114 = .ok (.aload_n 1, 1) := by decide +kernel
theorem dL_agree_115 : decode cL_agree 115 = .ok (.iconst 3, 1) := by decide +kernel
theorem dL_agree_116 : decode cL_agree 116 = .ok (.iaload, 1) := by decide +kernel
theorem dL_agree_117 : decode cL_agree 117 = .ok (.if_icmp .ne 31, 3) := by decide +kernel
theorem dL_agree_120 : decode cL_agree 120 = .ok (.aload_n 0, 1) := by decide +kernel
theorem dL_agree_121 : decode cL_agree 121 = .ok (.bipush 6, 2) := by decide +kernel
theorem dL_agree_123 : decode cL_agree 123 = .ok (.invokevirtual 115, 3) := by decide +kernel
theorem dL_agree_126 : decode cL_agree 126 = .ok (.aload_n 1, 1) := by decide +kernel
theorem dL_agree_127 : decode cL_agree 127 = .ok (.iconst 4, 1) := by decide +kernel
theorem dL_agree_128 : decode cL_agree 128 = .ok (.iaload, 1) := by decide +kernel
theorem dL_agree_129 : decode cL_agree 129 = .ok (.if_icmp .ne 19, 3) := by decide +kernel
theorem dL_agree_132 : decode cL_agree 132 = .ok (.aload_n 0, 1) := by decide +kernel
theorem dL_agree_133 : decode cL_agree 133 = .ok (.bipush 8, 2) := by decide +kernel
theorem dL_agree_135 : decode cL_agree 135 = .ok (.invokevirtual 115, 3) := by decide +kernel
theorem dL_agree_138 : decode cL_agree 138 = .ok (.aload_n 1, 1) := by decide +kernel
theorem dL_agree_139 : decode cL_agree 139 = .ok (.iconst 5, 1) := by decide +kernel
theorem dL_agree_140 : decode cL_agree 140 = .ok (.iaload, 1) := by decide +kernel
theorem dL_agree_141 : decode cL_agree 141 = .ok (.if_icmp .ne 7, 3) := by decide +kernel
theorem dL_agree_144 : decode cL_agree 144 = .ok (.iconst 1, 1) := by decide +kernel
theorem dL_agree_145 : decode cL_agree 145 = .ok (.goto 4, 3) := by decide +kernel
theorem dL_agree_148 : decode cL_agree 148 = .ok (.iconst 0, 1) := by decide +kernel
theorem dL_agree_149 : decode cL_agree 149 = .ok (.ireturn, 1) := by decide +kernel
theorem dL_law_0 : decode cL_law 0 = .ok (.new 44, 3) := by decide +kernel
theorem dL_law_3 : decode cL_law 3 = .ok (.dup, 1) := by decide +kernel
theorem dL_law_4 : decode cL_law 4 = .ok (.invokespecial 118, 3) := by decide +kernel
theorem dL_law_7 : decode cL_law 7 = .ok (.astore_n 1, 1) := by decide +kernel
theorem dL_law_8 : decode cL_law 8 = .ok (.bipush 6, 2) := by decide +kernel
theorem dL_law_10 : decode cL_law 10 = .ok (.newarray .int, 2) := by decide +kernel
theorem dL_law_12 : decode cL_law 12 = .ok (.astore_n 2, 1) := by decide +kernel
theorem dL_law_13 : decode cL_law 13 = .ok (.bipush 42, 2) := by decide +kernel
theorem dL_law_15 : decode cL_law 15 = .ok (.newarray .int, 2) := by decide +kernel
theorem dL_law_17 : decode cL_law 17 = .ok (.astore_n 3, 1) := by decide +kernel
theorem dL_law_18 : decode cL_law 18 = .ok (.bipush 42, 2) := by decide +kernel
theorem dL_law_20 : decode cL_law 20 = .ok (.newarray .int, 2) := by decide +kernel
theorem dL_law_22 : decode cL_law 22 = .ok (.astore 4, 2) := by decide +kernel
theorem dL_law_24 : decode cL_law 24 = .ok (.aload_n 2, 1) := by decide +kernel
theorem dL_law_25 : decode cL_law 25 = .ok (.iconst 0, 1) := by decide +kernel
theorem dL_law_26 : decode cL_law 26 = .ok (.iconst 5, 1) := by decide +kernel
theorem dL_law_27 : decode cL_law 27 = .ok (.iastore, 1) := by decide +kernel
theorem dL_law_28 : decode cL_law 28 = .ok (.aload_n 2, 1) := by decide +kernel
theorem dL_law_29 : decode cL_law 29 = .ok (.iconst 1, 1) := by decide +kernel
theorem dL_law_30 : decode cL_law 30 = .ok (.sipush 500, 3) := by decide +kernel
theorem dL_law_33 : decode cL_law 33 = .ok (.iastore, 1) := by decide +kernel
theorem dL_law_34 : decode cL_law 34 = .ok (.iconst 0, 1) := by decide +kernel
theorem dL_law_35 : decode cL_law 35 = .ok (.istore 5, 2) := by decide +kernel
theorem dL_law_37 : decode cL_law 37 = .ok (.iload 5, 2) := by decide +kernel
theorem dL_law_39 : decode cL_law 39 = .ok (.bipush 6, 2) := by decide +kernel
theorem dL_law_41 : decode cL_law 41 = .ok (.if_icmp .ge 20, 3) := by decide +kernel
theorem dL_law_44 : decode cL_law 44 = .ok (.aload 4, 2) := by decide +kernel
theorem dL_law_46 : decode cL_law 46 = .ok (.bipush 7, 2) := by decide +kernel
theorem dL_law_48 : decode cL_law 48 = .ok (.iload 5, 2) := by decide +kernel
theorem dL_law_50 : decode cL_law 50 = .ok (.imul, 1) := by decide +kernel
theorem dL_law_51 : decode cL_law 51 = .ok (.iconst 1, 1) := by decide +kernel
theorem dL_law_52 : decode cL_law 52 = .ok (.iadd, 1) := by decide +kernel
theorem dL_law_53 : decode cL_law 53 = .ok (.iconst 1, 1) := by decide +kernel
theorem dL_law_54 : decode cL_law 54 = .ok (.iastore, 1) := by decide +kernel
theorem dL_law_55 : decode cL_law 55 = .ok (.iinc 5 1, 3) := by decide +kernel
theorem dL_law_58 : decode cL_law 58 = .ok (.goto (-21), 3) := by decide +kernel
theorem dL_law_61 : decode cL_law 61 = .ok (.iconst 0, 1) := by decide +kernel
theorem dL_law_62 : decode cL_law 62 = .ok (.istore 5, 2) := by decide +kernel
theorem dL_law_64 : decode cL_law 64 = .ok (.iload 5, 2) := by decide +kernel
theorem dL_law_66 : decode cL_law 66 = .ok (.bipush 50, 2) := by decide +kernel
theorem dL_law_68 : decode cL_law 68 = .ok (.if_icmp .ge 51, 3) := by decide +kernel
theorem dL_law_71 : decode cL_law 71 = .ok (.aload_n 1, 1) := by decide +kernel
theorem dL_law_72 : decode cL_law 72 = .ok (.aload_n 0, 1) := by decide +kernel
theorem dL_law_73 : decode cL_law 73 = .ok (.iconst 2, 1) := by decide +kernel
theorem dL_law_74 : decode cL_law 74 = .ok (.iload 5, 2) := by decide +kernel
theorem dL_law_76 : decode cL_law 76 = .ok (.imul, 1) := by decide +kernel
theorem dL_law_77 : decode cL_law 77 = .ok (.invokestatic 119, 3) := by decide +kernel
theorem dL_law_80 : decode cL_law 80 = .ok (.aload_n 0, 1) := by decide +kernel
theorem dL_law_81 : decode cL_law 81 = .ok (.iconst 2, 1) := by decide +kernel
theorem dL_law_82 : decode cL_law 82 = .ok (.iload 5, 2) := by decide +kernel
theorem dL_law_84 : decode cL_law 84 = .ok (.imul, 1) := by decide +kernel
theorem dL_law_85 : decode cL_law 85 = .ok (.iconst 1, 1) := by decide +kernel
theorem dL_law_86 : decode cL_law 86 = .ok (.iadd, 1) := by decide +kernel
theorem dL_law_87 : decode cL_law 87 = .ok (.invokestatic 119, 3) := by decide +kernel
theorem dL_law_90 : decode cL_law 90 = .ok (.aload_n 2, 1) := by decide +kernel
theorem dL_law_91 : decode cL_law 91 = .ok (.aload_n 3, 1) := by decide +kernel
theorem dL_law_92 : decode cL_law 92 = .ok (.aload 4, 2) := by decide +kernel
theorem dL_law_94 : decode cL_law 94 = .ok (.invokestatic 123, 3) := by decide +kernel
theorem dL_law_97 : decode cL_law 97 = .ok (.ifCond .eq 14, 3) := by decide +kernel
theorem dL_law_100 : decode cL_law 100 = .ok (.aload_n 1, 1) := by decide +kernel
theorem dL_law_101 : decode cL_law 101 = .ok (.aload_n 2, 1) := by decide +kernel
theorem dL_law_102 : decode cL_law 102 = .ok (.aload_n 3, 1) := by decide +kernel
theorem dL_law_103 : decode cL_law 103 = .ok (.aload 4, 2) := by decide +kernel
theorem dL_law_105 : decode cL_law 105 = .ok (.invokestatic 127, 3) := by decide +kernel
theorem dL_law_108 : decode cL_law 108 = .ok (.ifCond .ne 5, 3) := by decide +kernel
theorem dL_law_111 : decode cL_law 111 = .ok (.iconst 0, 1) := by decide +kernel
theorem dL_law_112 : decode cL_law 112 = .ok (.ireturn, 1) := by decide +kernel
theorem dL_law_113 : decode cL_law 113 = .ok (.iinc 5 1, 3) := by decide +kernel
theorem dL_law_116 : decode cL_law 116 = .ok (.goto (-52), 3) := by decide +kernel
theorem dL_law_119 : decode cL_law 119 = .ok (.iconst 1, 1) := by decide +kernel
theorem dL_law_120 : decode cL_law 120 = .ok (.ireturn, 1) := by decide +kernel
