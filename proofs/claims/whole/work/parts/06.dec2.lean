theorem dX6_bracket_54 : decode cX6_bracket 54 = .ok (.iaload, 1) := by decide +kernel
theorem dX6_bracket_55 : decode cX6_bracket 55 = .ok (.iconst 1, 1) := by decide +kernel
theorem dX6_bracket_56 : decode cX6_bracket 56 = .ok (.iadd, 1) := by decide +kernel
theorem dX6_bracket_57 : decode cX6_bracket 57 = .ok (.iastore, 1) := by decide +kernel
theorem dX6_bracket_58 : decode cX6_bracket 58 = .ok (.aload_n 0, 1) := by decide +kernel
theorem dX6_bracket_59 : decode cX6_bracket 59 = .ok (.iconst 2, 1) := by decide +kernel
theorem dX6_bracket_60 : decode cX6_bracket 60 = .ok (.iload_n 3, 1) := by decide +kernel
theorem dX6_bracket_61 : decode cX6_bracket 61 = .ok (.invokestatic 109, 3) := by decide +kernel
theorem dX6_bracket_64 : decode cX6_bracket 64 = .ok (.invokevirtual 103, 3) := by decide +kernel
theorem dX6_bracket_67 : decode cX6_bracket 67 = .ok (.ireturn, 1) := by decide +kernel
theorem dX6_laySum_0 : decode cX6_laySum 0 = .ok (.aload_n 0, 1) := by decide +kernel
theorem dX6_laySum_1 : decode cX6_laySum 1 = .ok (.iload_n 1, 1) := by decide +kernel
theorem dX6_laySum_2 : decode cX6_laySum 2 = .ok (.invokestatic 109, 3) := by decide +kernel
theorem dX6_laySum_5 : decode cX6_laySum 5 = .ok (.iconst 2, 1) := by decide +kernel
theorem dX6_laySum_6 : decode cX6_laySum 6 = .ok (.invokevirtual 112, 3) := by decide +kernel
theorem dX6_laySum_9 : decode cX6_laySum 9 = .ok (.aload_n 0, 1) := by decide +kernel
theorem dX6_laySum_10 : decode cX6_laySum 10 = .ok (.iload_n 2, 1) := by decide +kernel
theorem dX6_laySum_11 : decode cX6_laySum 11 = .ok (.invokestatic 109, 3) := by decide +kernel
theorem dX6_laySum_14 : decode cX6_laySum 14 = .ok (.iconst 1, 1) := by decide +kernel
theorem dX6_laySum_15 : decode cX6_laySum 15 = .ok (.invokevirtual 112, 3) := by decide +kernel
theorem dX6_laySum_18 : decode cX6_laySum 18 = .ok (.aload_n 0, 1) := by decide +kernel
theorem dX6_laySum_19 : decode cX6_laySum 19 = .ok (.iconst 1, 1) := by decide +kernel
theorem dX6_laySum_20 : decode cX6_laySum 20 = .ok (.iconst 1, 1) := by decide +kernel
theorem dX6_laySum_21 : decode cX6_laySum 21 = .ok (.iconst 2, 1) := by decide +kernel
theorem dX6_laySum_22 : decode cX6_laySum 22 = .ok (.invokevirtual 58, 3) := by decide +kernel
theorem dX6_laySum_25 : decode cX6_laySum 25 = .ok (.return_, 1) := by decide +kernel
theorem dX6_sum_0 : decode cX6_sum 0 = .ok (.aload_n 0, 1) := by decide +kernel
theorem dX6_sum_1 : decode cX6_sum 1 = .ok (.aload_n 0, 1) := by decide +kernel
theorem dX6_sum_2 : decode cX6_sum 2 = .ok (.iload_n 1, 1) := by decide +kernel
theorem dX6_sum_3 : decode cX6_sum 3 = .ok (.iload_n 2, 1) := by decide +kernel
theorem dX6_sum_4 : decode cX6_sum 4 = .ok (.invokestatic 115, 3) := by decide +kernel
theorem dX6_sum_7 : decode cX6_sum 7 = .ok (.ifCond .eq 14, 3) := by decide +kernel
theorem dX6_sum_10 : decode cX6_sum 10 = .ok (.iload_n 3, 1) := by decide +kernel
theorem dX6_sum_11 : decode cX6_sum 11 = .ok (.invokestatic 42, 3) := by decide +kernel
theorem dX6_sum_14 : decode cX6_sum 14 = .ok (.ifCond .eq 7, 3) := by decide +kernel
theorem dX6_sum_17 : decode cX6_sum 17 = .ok (.iconst 1, 1) := by decide +kernel
theorem dX6_sum_18 : decode cX6_sum 18 = .ok (.goto 4, 3) := by decide +kernel
theorem dX6_sum_21 : decode cX6_sum 21 = .ok (.iconst 0, 1) := by decide +kernel
theorem dX6_sum_22 : decode cX6_sum 22 = .ok (.iconst 1, 1) := by decide +kernel
theorem dX6_sum_23 : decode cX6_sum 23 = .ok (.invokevirtual 119, 3) := by decide +kernel
theorem dX6_sum_26 : decode cX6_sum 26 = .ok (.putfield 31, 3) := by decide +kernel
theorem dX6_sum_29 : decode cX6_sum 29 = .ok (.aload_n 0, 1) := by decide +kernel
theorem dX6_sum_30 : decode cX6_sum 30 = .ok (.getfield 31, 3) := by decide +kernel
theorem dX6_sum_33 : decode cX6_sum 33 = .ok (.ifCond .le 5, 3) := by decide +kernel
theorem dX6_sum_36 : decode cX6_sum 36 = .ok (.iconst 0, 1) := by decide +kernel
theorem dX6_sum_37 : decode cX6_sum 37 = .ok (.ireturn, 1) := by decide +kernel
theorem dX6_sum_38 : decode cX6_sum 38 = .ok (.aload_n 0, 1) := by decide +kernel
theorem dX6_sum_39 : decode cX6_sum 39 = .ok (.iload_n 1, 1) := by decide +kernel
theorem dX6_sum_40 : decode cX6_sum 40 = .ok (.iload_n 2, 1) := by decide +kernel
theorem dX6_sum_41 : decode cX6_sum 41 = .ok (.invokevirtual 126, 3) := by decide +kernel
theorem dX6_sum_44 : decode cX6_sum 44 = .ok (.aload_n 0, 1) := by decide +kernel
theorem dX6_sum_45 : decode cX6_sum 45 = .ok (.iconst 1, 1) := by decide +kernel
theorem dX6_sum_46 : decode cX6_sum 46 = .ok (.iload_n 3, 1) := by decide +kernel
theorem dX6_sum_47 : decode cX6_sum 47 = .ok (.invokestatic 109, 3) := by decide +kernel
theorem dX6_sum_50 : decode cX6_sum 50 = .ok (.invokevirtual 129, 3) := by decide +kernel
theorem dX6_sum_53 : decode cX6_sum 53 = .ok (.ireturn, 1) := by decide +kernel
theorem dX6_scale_0 : decode cX6_scale 0 = .ok (.aload_n 0, 1) := by decide +kernel
theorem dX6_scale_1 : decode cX6_scale 1 = .ok (.aload_n 0, 1) := by decide +kernel
theorem dX6_scale_2 : decode cX6_scale 2 = .ok (.iload_n 1, 1) := by decide +kernel
theorem dX6_scale_3 : decode cX6_scale 3 = .ok (.iload_n 3, 1) := by decide +kernel
theorem dX6_scale_4 : decode cX6_scale 4 = .ok (.invokestatic 115, 3) := by decide +kernel
theorem dX6_scale_7 : decode cX6_scale 7 = .ok (.iconst 1, 1) := by decide +kernel
theorem dX6_scale_8 : decode cX6_scale 8 = .ok (.invokevirtual 119, 3) := by decide +kernel
theorem dX6_scale_11 : decode cX6_scale 11 = .ok (.putfield 31, 3) := by decide +kernel
theorem dX6_scale_14 : decode cX6_scale 14 = .ok (.aload_n 0, 1) := by decide +kernel
theorem dX6_scale_15 : decode cX6_scale 15 = .ok (.getfield 31, 3) := by decide +kernel
theorem dX6_scale_18 : decode cX6_scale 18 = .ok (.ifCond .le 5, 3) := by decide +kernel
theorem dX6_scale_21 : decode cX6_scale 21 = .ok (.iconst 0, 1) := by decide +kernel
theorem dX6_scale_22 : decode cX6_scale 22 = .ok (.ireturn, 1) := by decide +kernel
theorem dX6_scale_23 : decode cX6_scale 23 = .ok (.aload_n 0, 1) := by decide +kernel
theorem dX6_scale_24 : decode cX6_scale 24 = .ok (.iload_n 1, 1) := by decide +kernel
theorem dX6_scale_25 : decode cX6_scale 25 = .ok (.invokestatic 109, 3) := by decide +kernel
theorem dX6_scale_28 : decode cX6_scale 28 = .ok (.iconst 0, 1) := by decide +kernel
theorem dX6_scale_29 : decode cX6_scale 29 = .ok (.invokevirtual 112, 3) := by decide +kernel
theorem dX6_scale_32 : decode cX6_scale 32 = .ok (.aload_n 0, 1) := by decide +kernel
theorem dX6_scale_33 : decode cX6_scale 33 = .ok (.iconst 2, 1) := by decide +kernel
theorem dX6_scale_34 : decode cX6_scale 34 = .ok (.invokevirtual 54, 3) := by decide +kernel
theorem dX6_scale_37 : decode cX6_scale 37 = .ok (.aload_n 0, 1) := by decide +kernel
theorem dX6_scale_38 : decode cX6_scale 38 = .ok (.iconst 0, 1) := by decide +kernel
theorem dX6_scale_39 : decode cX6_scale 39 = .ok (.iload_n 2, 1) := by decide +kernel
theorem dX6_scale_40 : decode cX6_scale 40 = .ok (.invokestatic 90, 3) := by decide +kernel
theorem dX6_scale_43 : decode cX6_scale 43 = .ok (.iconst 2, 1) := by decide +kernel
theorem dX6_scale_44 : decode cX6_scale 44 = .ok (.invokevirtual 58, 3) := by decide +kernel
theorem dX6_scale_47 : decode cX6_scale 47 = .ok (.aload_n 0, 1) := by decide +kernel
theorem dX6_scale_48 : decode cX6_scale 48 = .ok (.iconst 1, 1) := by decide +kernel
theorem dX6_scale_49 : decode cX6_scale 49 = .ok (.iload_n 3, 1) := by decide +kernel
theorem dX6_scale_50 : decode cX6_scale 50 = .ok (.invokestatic 109, 3) := by decide +kernel
theorem dX6_scale_53 : decode cX6_scale 53 = .ok (.invokevirtual 129, 3) := by decide +kernel
theorem dX6_scale_56 : decode cX6_scale 56 = .ok (.ireturn, 1) := by decide +kernel
theorem dX6_layWay_0 : decode cX6_layWay 0 = .ok (.aload_n 0, 1) := by decide +kernel
theorem dX6_layWay_1 : decode cX6_layWay 1 = .ok (.iload_n 1, 1) := by decide +kernel
theorem dX6_layWay_2 : decode cX6_layWay 2 = .ok (.invokestatic 109, 3) := by decide +kernel
theorem dX6_layWay_5 : decode cX6_layWay 5 = .ok (.iconst 0, 1) := by decide +kernel
theorem dX6_layWay_6 : decode cX6_layWay 6 = .ok (.invokevirtual 112, 3) := by decide +kernel
theorem dX6_layWay_9 : decode cX6_layWay 9 = .ok (.aload_n 0, 1) := by decide +kernel
theorem dX6_layWay_10 : decode cX6_layWay 10 = .ok (.iload_n 2, 1) := by decide +kernel
theorem dX6_layWay_11 : decode cX6_layWay 11 = .ok (.invokestatic 109, 3) := by decide +kernel
theorem dX6_layWay_14 : decode cX6_layWay 14 = .ok (.iconst 1, 1) := by decide +kernel
theorem dX6_layWay_15 : decode cX6_layWay 15 = .ok (.invokevirtual 112, 3) := by decide +kernel
theorem dX6_layWay_18 : decode cX6_layWay 18 = .ok (.aload_n 0, 1) := by decide +kernel
theorem dX6_layWay_19 : decode cX6_layWay 19 = .ok (.iload_n 3, 1) := by decide +kernel
theorem dX6_layWay_20 : decode cX6_layWay 20 = .ok (.iconst 2, 1) := by decide +kernel
theorem dX6_layWay_21 : decode cX6_layWay 21 = .ok (.invokevirtual 132, 3) := by decide +kernel
theorem dX6_layWay_24 : decode cX6_layWay 24 = .ok (.return_, 1) := by decide +kernel
theorem dX6_byBrackets_0 : decode cX6_byBrackets 0 = .ok (.aload_n 0, 1) := by decide +kernel
theorem dX6_byBrackets_1 : decode cX6_byBrackets 1 = .ok (.aload_n 0, 1) := by decide +kernel
theorem dX6_byBrackets_2 : decode cX6_byBrackets 2 = .ok (.iload_n 1, 1) := by decide +kernel
theorem dX6_byBrackets_3 : decode cX6_byBrackets 3 = .ok (.iload_n 2, 1) := by decide +kernel
theorem dX6_byBrackets_4 : decode cX6_byBrackets 4 = .ok (.invokestatic 115, 3) := by decide +kernel
theorem dX6_byBrackets_7 : decode cX6_byBrackets 7 = .ok (.ifCond .eq 14, 3) := by decide +kernel
theorem dX6_byBrackets_10 : decode cX6_byBrackets 10 = .ok (.iload_n 3, 1) := by decide +kernel
theorem dX6_byBrackets_11 : decode cX6_byBrackets 11 = .ok (.invokestatic 42, 3) := by decide +kernel
theorem dX6_byBrackets_14 : decode cX6_byBrackets 14 = .ok (.ifCond .eq 7, 3) := by decide +kernel
theorem dX6_byBrackets_17 : decode cX6_byBrackets 17 = .ok (.iconst 1, 1) := by decide +kernel
theorem dX6_byBrackets_18 : decode cX6_byBrackets 18 = .ok (.goto 4, 3) := by decide +kernel
theorem dX6_byBrackets_21 : decode cX6_byBrackets 21 = .ok (.iconst 0, 1) := by decide +kernel
theorem dX6_byBrackets_22 : decode cX6_byBrackets 22 = .ok (.bipush 20, 2) := by decide +kernel
theorem dX6_byBrackets_24 : decode cX6_byBrackets 24 = .ok (.invokevirtual 119, 3) := by decide +kernel
theorem dX6_byBrackets_27 : decode cX6_byBrackets 27 = .ok (.putfield 31, 3) := by decide +kernel
theorem dX6_byBrackets_30 : decode cX6_byBrackets 30 = .ok (.aload_n 0, 1) := by decide +kernel
theorem dX6_byBrackets_31 : decode cX6_byBrackets 31 = .ok (.getfield 31, 3) := by decide +kernel
theorem dX6_byBrackets_34 : decode cX6_byBrackets 34 = .ok (.ifCond .le 5, 3) := by decide +kernel
theorem dX6_byBrackets_37 : decode cX6_byBrackets 37 = .ok (.iconst 0, 1) := by decide +kernel
theorem dX6_byBrackets_38 : decode cX6_byBrackets 38 = .ok (.ireturn, 1) := by decide +kernel
theorem dX6_byBrackets_39 : decode cX6_byBrackets 39 = .ok (.aload_n 0, 1) := by decide +kernel
theorem dX6_byBrackets_40 : decode cX6_byBrackets 40 = .ok (.iload_n 1, 1) := by decide +kernel
theorem dX6_byBrackets_41 : decode cX6_byBrackets 41 = .ok (.iload_n 2, 1) := by decide +kernel
theorem dX6_byBrackets_42 : decode cX6_byBrackets 42 = .ok (.iconst 5, 1) := by decide +kernel
theorem dX6_byBrackets_43 : decode cX6_byBrackets 43 = .ok (.invokevirtual 135, 3) := by decide +kernel
theorem dX6_byBrackets_46 : decode cX6_byBrackets 46 = .ok (.aload_n 0, 1) := by decide +kernel
theorem dX6_byBrackets_47 : decode cX6_byBrackets 47 = .ok (.bipush 20, 2) := by decide +kernel
theorem dX6_byBrackets_49 : decode cX6_byBrackets 49 = .ok (.iload_n 3, 1) := by decide +kernel
theorem dX6_byBrackets_50 : decode cX6_byBrackets 50 = .ok (.invokestatic 109, 3) := by decide +kernel
theorem dX6_byBrackets_53 : decode cX6_byBrackets 53 = .ok (.invokevirtual 129, 3) := by decide +kernel
theorem dX6_byBrackets_56 : decode cX6_byBrackets 56 = .ok (.ireturn, 1) := by decide +kernel
theorem dX6_layPush_0 : decode cX6_layPush 0 = .ok (.aload_n 0, 1) := by decide +kernel
theorem dX6_layPush_1 : decode cX6_layPush 1 = .ok (.iload_n 1, 1) := by decide +kernel
theorem dX6_layPush_2 : decode cX6_layPush 2 = .ok (.invokestatic 138, 3) := by decide +kernel
theorem dX6_layPush_5 : decode cX6_layPush 5 = .ok (.iconst 0, 1) := by decide +kernel
theorem dX6_layPush_6 : decode cX6_layPush 6 = .ok (.invokevirtual 112, 3) := by decide +kernel
theorem dX6_layPush_9 : decode cX6_layPush 9 = .ok (.aload_n 0, 1) := by decide +kernel
theorem dX6_layPush_10 : decode cX6_layPush 10 = .ok (.iload_n 2, 1) := by decide +kernel
theorem dX6_layPush_11 : decode cX6_layPush 11 = .ok (.invokestatic 109, 3) := by decide +kernel
theorem dX6_layPush_14 : decode cX6_layPush 14 = .ok (.iconst 1, 1) := by decide +kernel
theorem dX6_layPush_15 : decode cX6_layPush 15 = .ok (.invokevirtual 112, 3) := by decide +kernel
theorem dX6_layPush_18 : decode cX6_layPush 18 = .ok (.aload_n 0, 1) := by decide +kernel
theorem dX6_layPush_19 : decode cX6_layPush 19 = .ok (.iconst 0, 1) := by decide +kernel
theorem dX6_layPush_20 : decode cX6_layPush 20 = .ok (.iconst 3, 1) := by decide +kernel
theorem dX6_layPush_21 : decode cX6_layPush 21 = .ok (.invokevirtual 141, 3) := by decide +kernel
theorem dX6_layPush_24 : decode cX6_layPush 24 = .ok (.aload_n 0, 1) := by decide +kernel
theorem dX6_layPush_25 : decode cX6_layPush 25 = .ok (.iconst 0, 1) := by decide +kernel
theorem dX6_layPush_26 : decode cX6_layPush 26 = .ok (.bipush 10, 2) := by decide +kernel
theorem dX6_layPush_28 : decode cX6_layPush 28 = .ok (.invokevirtual 74, 3) := by decide +kernel
theorem dX6_layPush_31 : decode cX6_layPush 31 = .ok (.aload_n 0, 1) := by decide +kernel
theorem dX6_layPush_32 : decode cX6_layPush 32 = .ok (.bipush 10, 2) := by decide +kernel
theorem dX6_layPush_34 : decode cX6_layPush 34 = .ok (.iconst 1, 1) := by decide +kernel
theorem dX6_layPush_35 : decode cX6_layPush 35 = .ok (.iconst 4, 1) := by decide +kernel
theorem dX6_layPush_36 : decode cX6_layPush 36 = .ok (.invokevirtual 61, 3) := by decide +kernel
theorem dX6_layPush_39 : decode cX6_layPush 39 = .ok (.aload_n 0, 1) := by decide +kernel
theorem dX6_layPush_40 : decode cX6_layPush 40 = .ok (.iconst 3, 1) := by decide +kernel
theorem dX6_layPush_41 : decode cX6_layPush 41 = .ok (.iconst 4, 1) := by decide +kernel
theorem dX6_layPush_42 : decode cX6_layPush 42 = .ok (.iconst 2, 1) := by decide +kernel
theorem dX6_layPush_43 : decode cX6_layPush 43 = .ok (.invokevirtual 71, 3) := by decide +kernel
theorem dX6_layPush_46 : decode cX6_layPush 46 = .ok (.return_, 1) := by decide +kernel
theorem dX6_push_0 : decode cX6_push 0 = .ok (.aload_n 0, 1) := by decide +kernel
theorem dX6_push_1 : decode cX6_push 1 = .ok (.aload_n 0, 1) := by decide +kernel
theorem dX6_push_2 : decode cX6_push 2 = .ok (.iload_n 1, 1) := by decide +kernel
theorem dX6_push_3 : decode cX6_push 3 = .ok (.iload_n 2, 1) := by decide +kernel
theorem dX6_push_4 : decode cX6_push 4 = .ok (.invokestatic 115, 3) := by decide +kernel
theorem dX6_push_7 : decode cX6_push 7 = .ok (.ifCond .eq 14, 3) := by decide +kernel
theorem dX6_push_10 : decode cX6_push 10 = .ok (.iload_n 3, 1) := by decide +kernel
theorem dX6_push_11 : decode cX6_push 11 = .ok (.invokestatic 42, 3) := by decide +kernel
theorem dX6_push_14 : decode cX6_push 14 = .ok (.ifCond .eq 7, 3) := by decide +kernel
theorem dX6_push_17 : decode cX6_push 17 = .ok (.iconst 1, 1) := by decide +kernel
theorem dX6_push_18 : decode cX6_push 18 = .ok (.goto 4, 3) := by decide +kernel
theorem dX6_push_21 : decode cX6_push 21 = .ok (.iconst 0, 1) := by decide +kernel
theorem dX6_push_22 : decode cX6_push 22 = .ok (.bipush 6, 2) := by decide +kernel
theorem dX6_push_24 : decode cX6_push 24 = .ok (.invokevirtual 119, 3) := by decide +kernel
theorem dX6_push_27 : decode cX6_push 27 = .ok (.putfield 31, 3) := by decide +kernel
theorem dX6_push_30 : decode cX6_push 30 = .ok (.aload_n 0, 1) := by decide +kernel
theorem dX6_push_31 : decode cX6_push 31 = .ok (.getfield 31, 3) := by decide +kernel
theorem dX6_push_34 : decode cX6_push 34 = .ok (.ifCond .le 5, 3) := by decide +kernel
theorem dX6_push_37 : decode cX6_push 37 = .ok (.iconst 0, 1) := by decide +kernel
theorem dX6_push_38 : decode cX6_push 38 = .ok (.ireturn, 1) := by decide +kernel
theorem dX6_push_39 : decode cX6_push 39 = .ok (.aload_n 0, 1) := by decide +kernel
theorem dX6_push_40 : decode cX6_push 40 = .ok (.iload_n 1, 1) := by decide +kernel
theorem dX6_push_41 : decode cX6_push 41 = .ok (.iload_n 2, 1) := by decide +kernel
theorem dX6_push_42 : decode cX6_push 42 = .ok (.invokevirtual 144, 3) := by decide +kernel
theorem dX6_push_45 : decode cX6_push 45 = .ok (.aload_n 0, 1) := by decide +kernel
theorem dX6_push_46 : decode cX6_push 46 = .ok (.bipush 6, 2) := by decide +kernel
theorem dX6_push_48 : decode cX6_push 48 = .ok (.iload_n 3, 1) := by decide +kernel
theorem dX6_push_49 : decode cX6_push 49 = .ok (.invokestatic 109, 3) := by decide +kernel
theorem dX6_push_52 : decode cX6_push 52 = .ok (.invokevirtual 129, 3) := by decide +kernel
theorem dX6_push_55 : decode cX6_push 55 = .ok (.ireturn, 1) := by decide +kernel
theorem dX6_layLog_0 : decode cX6_layLog 0 = .ok (.aload_n 0, 1) := by decide +kernel
theorem dX6_layLog_1 : decode cX6_layLog 1 = .ok (.iload_n 1, 1) := by decide +kernel
theorem dX6_layLog_2 : decode cX6_layLog 2 = .ok (.invokestatic 138, 3) := by decide +kernel
theorem dX6_layLog_5 : decode cX6_layLog 5 = .ok (.iconst 0, 1) := by decide +kernel
theorem dX6_layLog_6 : decode cX6_layLog 6 = .ok (.invokevirtual 112, 3) := by decide +kernel
theorem dX6_layLog_9 : decode cX6_layLog 9 = .ok (.aload_n 0, 1) := by decide +kernel
theorem dX6_layLog_10 : decode cX6_layLog 10 = .ok (.iconst 0, 1) := by decide +kernel
theorem dX6_layLog_11 : decode cX6_layLog 11 = .ok (.iconst 2, 1) := by decide +kernel
theorem dX6_layLog_12 : decode cX6_layLog 12 = .ok (.invokevirtual 147, 3) := by decide +kernel
theorem dX6_layLog_15 : decode cX6_layLog 15 = .ok (.return_, 1) := by decide +kernel
theorem dX6_log_0 : decode cX6_log 0 = .ok (.aload_n 0, 1) := by decide +kernel
theorem dX6_log_1 : decode cX6_log 1 = .ok (.aload_n 0, 1) := by decide +kernel
theorem dX6_log_2 : decode cX6_log 2 = .ok (.iload_n 1, 1) := by decide +kernel
theorem dX6_log_3 : decode cX6_log 3 = .ok (.iload_n 2, 1) := by decide +kernel
theorem dX6_log_4 : decode cX6_log 4 = .ok (.invokestatic 115, 3) := by decide +kernel
theorem dX6_log_7 : decode cX6_log 7 = .ok (.bipush 6, 2) := by decide +kernel
theorem dX6_log_9 : decode cX6_log 9 = .ok (.invokevirtual 119, 3) := by decide +kernel
theorem dX6_log_12 : decode cX6_log 12 = .ok (.putfield 31, 3) := by decide +kernel
theorem dX6_log_15 : decode cX6_log 15 = .ok (.aload_n 0, 1) := by decide +kernel
theorem dX6_log_16 : decode cX6_log 16 = .ok (.getfield 31, 3) := by decide +kernel
theorem dX6_log_19 : decode cX6_log 19 = .ok (.ifCond .le 5, 3) := by decide +kernel
theorem dX6_log_22 : decode cX6_log 22 = .ok (.iconst 0, 1) := by decide +kernel
theorem dX6_log_23 : decode cX6_log 23 = .ok (.ireturn, 1) := by decide +kernel
theorem dX6_log_24 : decode cX6_log 24 = .ok (.aload_n 0, 1) := by decide +kernel
theorem dX6_log_25 : decode cX6_log 25 = .ok (.iload_n 1, 1) := by decide +kernel
theorem dX6_log_26 : decode cX6_log 26 = .ok (.invokevirtual 150, 3) := by decide +kernel
theorem dX6_log_29 : decode cX6_log 29 = .ok (.aload_n 0, 1) := by decide +kernel
theorem dX6_log_30 : decode cX6_log 30 = .ok (.bipush 6, 2) := by decide +kernel
theorem dX6_log_32 : decode cX6_log 32 = .ok (.iload_n 2, 1) := by decide +kernel
theorem dX6_log_33 : decode cX6_log 33 = .ok (.invokestatic 109, 3) := by decide +kernel
theorem dX6_log_36 : decode cX6_log 36 = .ok (.invokevirtual 129, 3) := by decide +kernel
theorem dX6_log_39 : decode cX6_log 39 = .ok (.ireturn, 1) := by decide +kernel
theorem dX6_layExp_0 : decode cX6_layExp 0 = .ok (.aload_n 0, 1) := by decide +kernel
theorem dX6_layExp_1 : decode cX6_layExp 1 = .ok (.iload_n 1, 1) := by decide +kernel
theorem dX6_layExp_2 : decode cX6_layExp 2 = .ok (.invokestatic 109, 3) := by decide +kernel
theorem dX6_layExp_5 : decode cX6_layExp 5 = .ok (.iconst 0, 1) := by decide +kernel
theorem dX6_layExp_6 : decode cX6_layExp 6 = .ok (.invokevirtual 112, 3) := by decide +kernel
theorem dX6_layExp_9 : decode cX6_layExp 9 = .ok (.aload_n 0, 1) := by decide +kernel
theorem dX6_layExp_10 : decode cX6_layExp 10 = .ok (.iconst 0, 1) := by decide +kernel
theorem dX6_layExp_11 : decode cX6_layExp 11 = .ok (.iconst 2, 1) := by decide +kernel
theorem dX6_layExp_12 : decode cX6_layExp 12 = .ok (.invokevirtual 81, 3) := by decide +kernel
theorem dX6_layExp_15 : decode cX6_layExp 15 = .ok (.return_, 1) := by decide +kernel
theorem dX6_exp_0 : decode cX6_exp 0 = .ok (.aload_n 0, 1) := by decide +kernel
theorem dX6_exp_1 : decode cX6_exp 1 = .ok (.aload_n 0, 1) := by decide +kernel
theorem dX6_exp_2 : decode cX6_exp 2 = .ok (.iload_n 1, 1) := by decide +kernel
theorem dX6_exp_3 : decode cX6_exp 3 = .ok (.iload_n 2, 1) := by decide +kernel
theorem dX6_exp_4 : decode cX6_exp 4 = .ok (.invokestatic 115, 3) := by decide +kernel
theorem dX6_exp_7 : decode cX6_exp 7 = .ok (.iconst 5, 1) := by decide +kernel
theorem dX6_exp_8 : decode cX6_exp 8 = .ok (.invokevirtual 119, 3) := by decide +kernel
theorem dX6_exp_11 : decode cX6_exp 11 = .ok (.putfield 31, 3) := by decide +kernel
theorem dX6_exp_14 : decode cX6_exp 14 = .ok (.aload_n 0, 1) := by decide +kernel
theorem dX6_exp_15 : decode cX6_exp 15 = .ok (.getfield 31, 3) := by decide +kernel
theorem dX6_exp_18 : decode cX6_exp 18 = .ok (.ifCond .le 5, 3) := by decide +kernel
theorem dX6_exp_21 : decode cX6_exp 21 = .ok (.iconst 0, 1) := by decide +kernel
theorem dX6_exp_22 : decode cX6_exp 22 = .ok (.ireturn, 1) := by decide +kernel
theorem dX6_exp_23 : decode cX6_exp 23 = .ok (.aload_n 0, 1) := by decide +kernel
theorem dX6_exp_24 : decode cX6_exp 24 = .ok (.iload_n 1, 1) := by decide +kernel
theorem dX6_exp_25 : decode cX6_exp 25 = .ok (.invokevirtual 153, 3) := by decide +kernel
theorem dX6_exp_28 : decode cX6_exp 28 = .ok (.aload_n 0, 1) := by decide +kernel
theorem dX6_exp_29 : decode cX6_exp 29 = .ok (.iconst 5, 1) := by decide +kernel
theorem dX6_exp_30 : decode cX6_exp 30 = .ok (.iload_n 2, 1) := by decide +kernel
theorem dX6_exp_31 : decode cX6_exp 31 = .ok (.invokestatic 138, 3) := by decide +kernel
theorem dX6_exp_34 : decode cX6_exp 34 = .ok (.invokevirtual 129, 3) := by decide +kernel
theorem dX6_exp_37 : decode cX6_exp 37 = .ok (.ireturn, 1) := by decide +kernel
theorem dX6_layCompose_0 : decode cX6_layCompose 0 = .ok (.aload_n 0, 1) := by decide +kernel
theorem dX6_layCompose_1 : decode cX6_layCompose 1 = .ok (.iload_n 1, 1) := by decide +kernel
theorem dX6_layCompose_2 : decode cX6_layCompose 2 = .ok (.invokestatic 138, 3) := by decide +kernel
theorem dX6_layCompose_5 : decode cX6_layCompose 5 = .ok (.iconst 0, 1) := by decide +kernel
theorem dX6_layCompose_6 : decode cX6_layCompose 6 = .ok (.invokevirtual 112, 3) := by decide +kernel
theorem dX6_layCompose_9 : decode cX6_layCompose 9 = .ok (.aload_n 0, 1) := by decide +kernel
theorem dX6_layCompose_10 : decode cX6_layCompose 10 = .ok (.iload_n 2, 1) := by decide +kernel
theorem dX6_layCompose_11 : decode cX6_layCompose 11 = .ok (.invokestatic 138, 3) := by decide +kernel
theorem dX6_layCompose_14 : decode cX6_layCompose 14 = .ok (.iconst 1, 1) := by decide +kernel
theorem dX6_layCompose_15 : decode cX6_layCompose 15 = .ok (.invokevirtual 112, 3) := by decide +kernel
theorem dX6_layCompose_18 : decode cX6_layCompose 18 = .ok (.aload_n 0, 1) := by decide +kernel
theorem dX6_layCompose_19 : decode cX6_layCompose 19 = .ok (.iconst 0, 1) := by decide +kernel
theorem dX6_layCompose_20 : decode cX6_layCompose 20 = .ok (.iconst 1, 1) := by decide +kernel
theorem dX6_layCompose_21 : decode cX6_layCompose 21 = .ok (.iconst 2, 1) := by decide +kernel
theorem dX6_layCompose_22 : decode cX6_layCompose 22 = .ok (.invokevirtual 71, 3) := by decide +kernel
theorem dX6_layCompose_25 : decode cX6_layCompose 25 = .ok (.return_, 1) := by decide +kernel
theorem dX6_compose_0 : decode cX6_compose 0 = .ok (.aload_n 0, 1) := by decide +kernel
theorem dX6_compose_1 : decode cX6_compose 1 = .ok (.aload_n 0, 1) := by decide +kernel
theorem dX6_compose_2 : decode cX6_compose 2 = .ok (.iload_n 1, 1) := by decide +kernel
theorem dX6_compose_3 : decode cX6_compose 3 = .ok (.iload_n 2, 1) := by decide +kernel
theorem dX6_compose_4 : decode cX6_compose 4 = .ok (.invokestatic 115, 3) := by decide +kernel
theorem dX6_compose_7 : decode cX6_compose 7 = .ok (.ifCond .eq 14, 3) := by decide +kernel
theorem dX6_compose_10 : decode cX6_compose 10 = .ok (.iload_n 3, 1) := by decide +kernel
theorem dX6_compose_11 : decode cX6_compose 11 = .ok (.invokestatic 42, 3) := by decide +kernel
theorem dX6_compose_14 : decode cX6_compose 14 = .ok (.ifCond .eq 7, 3) := by decide +kernel
theorem dX6_compose_17 : decode cX6_compose 17 = .ok (.iconst 1, 1) := by decide +kernel
theorem dX6_compose_18 : decode cX6_compose 18 = .ok (.goto 4, 3) := by decide +kernel
theorem dX6_compose_21 : decode cX6_compose 21 = .ok (.iconst 0, 1) := by decide +kernel
theorem dX6_compose_22 : decode cX6_compose 22 = .ok (.iconst 4, 1) := by decide +kernel
theorem dX6_compose_23 : decode cX6_compose 23 = .ok (.invokevirtual 119, 3) := by decide +kernel
theorem dX6_compose_26 : decode cX6_compose 26 = .ok (.putfield 31, 3) := by decide +kernel
theorem dX6_compose_29 : decode cX6_compose 29 = .ok (.aload_n 0, 1) := by decide +kernel
theorem dX6_compose_30 : decode cX6_compose 30 = .ok (.getfield 31, 3) := by decide +kernel
theorem dX6_compose_33 : decode cX6_compose 33 = .ok (.ifCond .le 5, 3) := by decide +kernel
theorem dX6_compose_36 : decode cX6_compose 36 = .ok (.iconst 0, 1) := by decide +kernel
theorem dX6_compose_37 : decode cX6_compose 37 = .ok (.ireturn, 1) := by decide +kernel
theorem dX6_compose_38 : decode cX6_compose 38 = .ok (.aload_n 0, 1) := by decide +kernel
theorem dX6_compose_39 : decode cX6_compose 39 = .ok (.iload_n 1, 1) := by decide +kernel
theorem dX6_compose_40 : decode cX6_compose 40 = .ok (.iload_n 2, 1) := by decide +kernel
theorem dX6_compose_41 : decode cX6_compose 41 = .ok (.invokevirtual 156, 3) := by decide +kernel
theorem dX6_compose_44 : decode cX6_compose 44 = .ok (.aload_n 0, 1) := by decide +kernel
theorem dX6_compose_45 : decode cX6_compose 45 = .ok (.iconst 4, 1) := by decide +kernel
theorem dX6_compose_46 : decode cX6_compose 46 = .ok (.iload_n 3, 1) := by decide +kernel
theorem dX6_compose_47 : decode cX6_compose 47 = .ok (.invokestatic 138, 3) := by decide +kernel
theorem dX6_compose_50 : decode cX6_compose 50 = .ok (.invokevirtual 129, 3) := by decide +kernel
theorem dX6_compose_53 : decode cX6_compose 53 = .ok (.ireturn, 1) := by decide +kernel
theorem dX6_layInverse_0 : decode cX6_layInverse 0 = .ok (.aload_n 0, 1) := by decide +kernel
theorem dX6_layInverse_1 : decode cX6_layInverse 1 = .ok (.iload_n 1, 1) := by decide +kernel
theorem dX6_layInverse_2 : decode cX6_layInverse 2 = .ok (.invokestatic 138, 3) := by decide +kernel
theorem dX6_layInverse_5 : decode cX6_layInverse 5 = .ok (.iconst 0, 1) := by decide +kernel
theorem dX6_layInverse_6 : decode cX6_layInverse 6 = .ok (.invokevirtual 112, 3) := by decide +kernel
theorem dX6_layInverse_9 : decode cX6_layInverse 9 = .ok (.aload_n 0, 1) := by decide +kernel
theorem dX6_layInverse_10 : decode cX6_layInverse 10 = .ok (.iconst 0, 1) := by decide +kernel
theorem dX6_layInverse_11 : decode cX6_layInverse 11 = .ok (.iconst 2, 1) := by decide +kernel
theorem dX6_layInverse_12 : decode cX6_layInverse 12 = .ok (.invokevirtual 141, 3) := by decide +kernel
theorem dX6_layInverse_15 : decode cX6_layInverse 15 = .ok (.return_, 1) := by decide +kernel
theorem dX6_invert_0 : decode cX6_invert 0 = .ok (.aload_n 0, 1) := by decide +kernel
theorem dX6_invert_1 : decode cX6_invert 1 = .ok (.aload_n 0, 1) := by decide +kernel
theorem dX6_invert_2 : decode cX6_invert 2 = .ok (.iload_n 1, 1) := by decide +kernel
theorem dX6_invert_3 : decode cX6_invert 3 = .ok (.iload_n 2, 1) := by decide +kernel
theorem dX6_invert_4 : decode cX6_invert 4 = .ok (.invokestatic 115, 3) := by decide +kernel
theorem dX6_invert_7 : decode cX6_invert 7 = .ok (.iconst 4, 1) := by decide +kernel
theorem dX6_invert_8 : decode cX6_invert 8 = .ok (.invokevirtual 119, 3) := by decide +kernel
theorem dX6_invert_11 : decode cX6_invert 11 = .ok (.putfield 31, 3) := by decide +kernel
theorem dX6_invert_14 : decode cX6_invert 14 = .ok (.aload_n 0, 1) := by decide +kernel
theorem dX6_invert_15 : decode cX6_invert 15 = .ok (.getfield 31, 3) := by decide +kernel
theorem dX6_invert_18 : decode cX6_invert 18 = .ok (.ifCond .le 5, 3) := by decide +kernel
theorem dX6_invert_21 : decode cX6_invert 21 = .ok (.iconst 0, 1) := by decide +kernel
theorem dX6_invert_22 : decode cX6_invert 22 = .ok (.ireturn, 1) := by decide +kernel
theorem dX6_invert_23 : decode cX6_invert 23 = .ok (.aload_n 0, 1) := by decide +kernel
theorem dX6_invert_24 : decode cX6_invert 24 = .ok (.iload_n 1, 1) := by decide +kernel
theorem dX6_invert_25 : decode cX6_invert 25 = .ok (.invokevirtual 159, 3) := by decide +kernel
theorem dX6_invert_28 : decode cX6_invert 28 = .ok (.aload_n 0, 1) := by decide +kernel
theorem dX6_invert_29 : decode cX6_invert 29 = .ok (.iconst 4, 1) := by decide +kernel
theorem dX6_invert_30 : decode cX6_invert 30 = .ok (.iload_n 2, 1) := by decide +kernel
theorem dX6_invert_31 : decode cX6_invert 31 = .ok (.invokestatic 138, 3) := by decide +kernel
theorem dX6_invert_34 : decode cX6_invert 34 = .ok (.invokevirtual 129, 3) := by decide +kernel
theorem dX6_invert_37 : decode cX6_invert 37 = .ok (.ireturn, 1) := by decide +kernel
theorem dX6_layTimes_0 : decode cX6_layTimes 0 = .ok (.aload_n 0, 1) := by decide +kernel
theorem dX6_layTimes_1 : decode cX6_layTimes 1 = .ok (.iload_n 1, 1) := by decide +kernel
theorem dX6_layTimes_2 : decode cX6_layTimes 2 = .ok (.invokestatic 138, 3) := by decide +kernel
theorem dX6_layTimes_5 : decode cX6_layTimes 5 = .ok (.iconst 0, 1) := by decide +kernel
theorem dX6_layTimes_6 : decode cX6_layTimes 6 = .ok (.invokevirtual 112, 3) := by decide +kernel
theorem dX6_layTimes_9 : decode cX6_layTimes 9 = .ok (.aload_n 0, 1) := by decide +kernel
theorem dX6_layTimes_10 : decode cX6_layTimes 10 = .ok (.iconst 0, 1) := by decide +kernel
theorem dX6_layTimes_11 : decode cX6_layTimes 11 = .ok (.iconst 1, 1) := by decide +kernel
theorem dX6_layTimes_12 : decode cX6_layTimes 12 = .ok (.invokevirtual 147, 3) := by decide +kernel
theorem dX6_layTimes_15 : decode cX6_layTimes 15 = .ok (.aload_n 0, 1) := by decide +kernel
theorem dX6_layTimes_16 : decode cX6_layTimes 16 = .ok (.iconst 3, 1) := by decide +kernel
theorem dX6_layTimes_17 : decode cX6_layTimes 17 = .ok (.invokevirtual 54, 3) := by decide +kernel
theorem dX6_layTimes_20 : decode cX6_layTimes 20 = .ok (.aload_n 0, 1) := by decide +kernel
theorem dX6_layTimes_21 : decode cX6_layTimes 21 = .ok (.iconst 1, 1) := by decide +kernel
theorem dX6_layTimes_22 : decode cX6_layTimes 22 = .ok (.iload_n 2, 1) := by decide +kernel
theorem dX6_layTimes_23 : decode cX6_layTimes 23 = .ok (.iconst 3, 1) := by decide +kernel
theorem dX6_layTimes_24 : decode cX6_layTimes 24 = .ok (.invokevirtual 58, 3) := by decide +kernel
theorem dX6_layTimes_27 : decode cX6_layTimes 27 = .ok (.aload_n 0, 1) := by decide +kernel
theorem dX6_layTimes_28 : decode cX6_layTimes 28 = .ok (.iconst 3, 1) := by decide +kernel
theorem dX6_layTimes_29 : decode cX6_layTimes 29 = .ok (.iconst 2, 1) := by decide +kernel
theorem dX6_layTimes_30 : decode cX6_layTimes 30 = .ok (.invokevirtual 81, 3) := by decide +kernel
theorem dX6_layTimes_33 : decode cX6_layTimes 33 = .ok (.return_, 1) := by decide +kernel
theorem dX6_power_0 : decode cX6_power 0 = .ok (.aload_n 0, 1) := by decide +kernel
theorem dX6_power_1 : decode cX6_power 1 = .ok (.iload_n 1, 1) := by decide +kernel
theorem dX6_power_2 : decode cX6_power 2 = .ok (.iload_n 3, 1) := by decide +kernel
theorem dX6_power_3 : decode cX6_power 3 = .ok (.invokestatic 115, 3) := by decide +kernel
theorem dX6_power_6 : decode cX6_power 6 = .ok (.ifCond .ne 7, 3) := by decide +kernel
theorem dX6_power_9 : decode cX6_power 9 = .ok (.iconst 1, 1) := by decide +kernel
theorem dX6_power_10 : decode cX6_power 10 = .ok (.goto 34, 3) := by decide +kernel
theorem dX6_power_13 : decode cX6_power 13 = .ok (.iload_n 2, 1) := by decide +kernel
theorem dX6_power_14 : decode cX6_power 14 = .ok (.sipush (-5000), 3) := by decide +kernel
theorem dX6_power_17 : decode cX6_power 17 = .ok (.sipush 5000, 3) := by decide +kernel
theorem dX6_power_20 : decode cX6_power 20 = .ok (.invokestatic 38, 3) := by decide +kernel
theorem dX6_power_23 : decode cX6_power 23 = .ok (.ifCond .ne 7, 3) := by decide +kernel
theorem dX6_power_26 : decode cX6_power 26 = .ok (.iconst 2, 1) := by decide +kernel
theorem dX6_power_27 : decode cX6_power 27 = .ok (.goto 17, 3) := by decide +kernel
theorem dX6_power_30 : decode cX6_power 30 = .ok (.aload_n 0, 1) := by decide +kernel
theorem dX6_power_31 : decode cX6_power 31 = .ok (.bipush 8, 2) := by decide +kernel
theorem dX6_power_33 : decode cX6_power 33 = .ok (.invokevirtual 106, 3) := by decide +kernel
theorem dX6_power_36 : decode cX6_power 36 = .ok (.ifCond .eq 7, 3) := by decide +kernel
theorem dX6_power_39 : decode cX6_power 39 = .ok (.iconst 0, 1) := by decide +kernel
theorem dX6_power_40 : decode cX6_power 40 = .ok (.goto 4, 3) := by decide +kernel
theorem dX6_power_43 : decode cX6_power 43 = .ok (.iconst 3, 1) := by decide +kernel
theorem dX6_power_44 : decode cX6_power 44 = .ok (.putfield 31, 3) := by decide +kernel
theorem dX6_power_47 : decode cX6_power 47 = .ok (.aload_n 0, 1) := by decide +kernel
theorem dX6_power_48 : decode cX6_power 48 = .ok (.getfield 31, 3) := by decide +kernel
theorem dX6_power_51 : decode cX6_power 51 = .ok (.ifCond .le 5, 3) := by decide +kernel
theorem dX6_power_54 : decode cX6_power 54 = .ok (.iconst 0, 1) := by decide +kernel
theorem dX6_power_55 : decode cX6_power 55 = .ok (.ireturn, 1) := by decide +kernel
theorem dX6_power_56 : decode cX6_power 56 = .ok (.aload_n 0, 1) := by decide +kernel
theorem dX6_power_57 : decode cX6_power 57 = .ok (.iload_n 1, 1) := by decide +kernel
theorem dX6_power_58 : decode cX6_power 58 = .ok (.iload_n 2, 1) := by decide +kernel
theorem dX6_power_59 : decode cX6_power 59 = .ok (.invokestatic 90, 3) := by decide +kernel
theorem dX6_power_62 : decode cX6_power 62 = .ok (.invokevirtual 162, 3) := by decide +kernel
theorem dX6_power_65 : decode cX6_power 65 = .ok (.aload_n 0, 1) := by decide +kernel
theorem dX6_power_66 : decode cX6_power 66 = .ok (.bipush 8, 2) := by decide +kernel
theorem dX6_power_68 : decode cX6_power 68 = .ok (.iload_n 3, 1) := by decide +kernel
theorem dX6_power_69 : decode cX6_power 69 = .ok (.invokestatic 138, 3) := by decide +kernel
theorem dX6_power_72 : decode cX6_power 72 = .ok (.invokevirtual 129, 3) := by decide +kernel
theorem dX6_power_75 : decode cX6_power 75 = .ok (.ireturn, 1) := by decide +kernel
theorem dX6_root_0 : decode cX6_root 0 = .ok (.aload_n 0, 1) := by decide +kernel
theorem dX6_root_1 : decode cX6_root 1 = .ok (.iload_n 1, 1) := by decide +kernel
theorem dX6_root_2 : decode cX6_root 2 = .ok (.iload_n 3, 1) := by decide +kernel
theorem dX6_root_3 : decode cX6_root 3 = .ok (.invokestatic 115, 3) := by decide +kernel
theorem dX6_root_6 : decode cX6_root 6 = .ok (.ifCond .ne 7, 3) := by decide +kernel
theorem dX6_root_9 : decode cX6_root 9 = .ok (.iconst 1, 1) := by decide +kernel
theorem dX6_root_10 : decode cX6_root 10 = .ok (.goto 32, 3) := by decide +kernel
theorem dX6_root_13 : decode cX6_root 13 = .ok (.iload_n 2, 1) := by decide +kernel
theorem dX6_root_14 : decode cX6_root 14 = .ok (.iconst 1, 1) := by decide +kernel
theorem dX6_root_15 : decode cX6_root 15 = .ok (.sipush 5000, 3) := by decide +kernel
theorem dX6_root_18 : decode cX6_root 18 = .ok (.invokestatic 38, 3) := by decide +kernel
theorem dX6_root_21 : decode cX6_root 21 = .ok (.ifCond .ne 7, 3) := by decide +kernel
theorem dX6_root_24 : decode cX6_root 24 = .ok (.iconst 2, 1) := by decide +kernel
theorem dX6_root_25 : decode cX6_root 25 = .ok (.goto 17, 3) := by decide +kernel
theorem dX6_root_28 : decode cX6_root 28 = .ok (.aload_n 0, 1) := by decide +kernel
theorem dX6_root_29 : decode cX6_root 29 = .ok (.bipush 8, 2) := by decide +kernel
theorem dX6_root_31 : decode cX6_root 31 = .ok (.invokevirtual 106, 3) := by decide +kernel
theorem dX6_root_34 : decode cX6_root 34 = .ok (.ifCond .eq 7, 3) := by decide +kernel
theorem dX6_root_37 : decode cX6_root 37 = .ok (.iconst 0, 1) := by decide +kernel
theorem dX6_root_38 : decode cX6_root 38 = .ok (.goto 4, 3) := by decide +kernel
theorem dX6_root_41 : decode cX6_root 41 = .ok (.iconst 3, 1) := by decide +kernel
theorem dX6_root_42 : decode cX6_root 42 = .ok (.putfield 31, 3) := by decide +kernel
theorem dX6_root_45 : decode cX6_root 45 = .ok (.aload_n 0, 1) := by decide +kernel
theorem dX6_root_46 : decode cX6_root 46 = .ok (.getfield 31, 3) := by decide +kernel
theorem dX6_root_49 : decode cX6_root 49 = .ok (.ifCond .le 5, 3) := by decide +kernel
theorem dX6_root_52 : decode cX6_root 52 = .ok (.iconst 0, 1) := by decide +kernel
theorem dX6_root_53 : decode cX6_root 53 = .ok (.ireturn, 1) := by decide +kernel
theorem dX6_root_54 : decode cX6_root 54 = .ok (.aload_n 0, 1) := by decide +kernel
theorem dX6_root_55 : decode cX6_root 55 = .ok (.iload_n 1, 1) := by decide +kernel
theorem dX6_root_56 : decode cX6_root 56 = .ok (.iload_n 2, 1) := by decide +kernel
theorem dX6_root_57 : decode cX6_root 57 = .ok (.invokestatic 77, 3) := by decide +kernel
theorem dX6_root_60 : decode cX6_root 60 = .ok (.invokevirtual 162, 3) := by decide +kernel
theorem dX6_root_63 : decode cX6_root 63 = .ok (.aload_n 0, 1) := by decide +kernel
theorem dX6_root_64 : decode cX6_root 64 = .ok (.bipush 8, 2) := by decide +kernel
theorem dX6_root_66 : decode cX6_root 66 = .ok (.iload_n 3, 1) := by decide +kernel
theorem dX6_root_67 : decode cX6_root 67 = .ok (.invokestatic 138, 3) := by decide +kernel
theorem dX6_root_70 : decode cX6_root 70 = .ok (.invokevirtual 129, 3) := by decide +kernel
theorem dX6_root_73 : decode cX6_root 73 = .ok (.ireturn, 1) := by decide +kernel
theorem dX6_append_0 : decode cX6_append 0 = .ok (.aload_n 0, 1) := by decide +kernel
theorem dX6_append_1 : decode cX6_append 1 = .ok (.iload_n 1, 1) := by decide +kernel
theorem dX6_append_2 : decode cX6_append 2 = .ok (.bipush 33, 2) := by decide +kernel
theorem dX6_append_4 : decode cX6_append 4 = .ok (.bipush 126, 2) := by decide +kernel
theorem dX6_append_6 : decode cX6_append 6 = .ok (.invokestatic 38, 3) := by decide +kernel
theorem dX6_append_9 : decode cX6_append 9 = .ok (.ifCond .ne 7, 3) := by decide +kernel
theorem dX6_append_12 : decode cX6_append 12 = .ok (.iconst 1, 1) := by decide +kernel
theorem dX6_append_13 : decode cX6_append 13 = .ok (.goto 17, 3) := by decide +kernel
theorem dX6_append_16 : decode cX6_append 16 = .ok (.aload_n 0, 1) := by decide +kernel
theorem dX6_append_17 : decode cX6_append 17 = .ok (.getfield 165, 3) := by decide +kernel
theorem dX6_append_20 : decode cX6_append 20 = .ok (.bipush 60, 2) := by decide +kernel
theorem dX6_append_22 : decode cX6_append 22 = .ok (.if_icmp .ne 7, 3) := by decide +kernel
theorem dX6_append_25 : decode cX6_append 25 = .ok (.iconst 2, 1) := by decide +kernel
theorem dX6_append_26 : decode cX6_append 26 = .ok (.goto 4, 3) := by decide +kernel
theorem dX6_append_29 : decode cX6_append 29 = .ok (.iconst 0, 1) := by decide +kernel
theorem dX6_append_30 : decode cX6_append 30 = .ok (.putfield 31, 3) := by decide +kernel
theorem dX6_append_33 : decode cX6_append 33 = .ok (.aload_n 0, 1) := by decide +kernel
theorem dX6_append_34 : decode cX6_append 34 = .ok (.getfield 31, 3) := by decide +kernel
theorem dX6_append_37 : decode cX6_append 37 = .ok (.ifCond .le 5, 3) := by decide +kernel
theorem dX6_append_40 : decode cX6_append 40 = .ok (.iconst 0, 1) := by decide +kernel
theorem dX6_append_41 : decode cX6_append 41 = .ok (.ireturn, 1) := by decide +kernel
theorem dX6_append_42 : decode cX6_append 42 = .ok (.aload_n 0, 1) := by decide +kernel
theorem dX6_append_43 : decode cX6_append 43 = .ok (.getfield 25, 3) := by decide +kernel
theorem dX6_append_46 : decode cX6_append 46 = .ok (.aload_n 0, 1) := by decide +kernel
theorem dX6_append_47 : decode cX6_append 47 = .ok (.getfield 165, 3) := by decide +kernel
theorem dX6_append_50 : decode cX6_append 50 = .ok (.iload_n 1, 1) := by decide +kernel
theorem dX6_append_51 : decode cX6_append 51 = .ok (.iastore, 1) := by decide +kernel
theorem dX6_append_52 : decode cX6_append 52 = .ok (.aload_n 0, 1) := by decide +kernel
theorem dX6_append_53 : decode cX6_append 53 = .ok (.dup, 1) := by decide +kernel
theorem dX6_append_54 : decode cX6_append 54 = .ok (.getfield 165, 3) := by decide +kernel
theorem dX6_append_57 : decode cX6_append 57 = .ok (.iconst 1, 1) := by decide +kernel
theorem dX6_append_58 : decode cX6_append 58 = .ok (.iadd, 1) := by decide +kernel
theorem dX6_append_59 : decode cX6_append 59 = .ok (.putfield 165, 3) := by decide +kernel
theorem dX6_append_62 : decode cX6_append 62 = .ok (.aload_n 0, 1) := by decide +kernel
theorem dX6_append_63 : decode cX6_append 63 = .ok (.getfield 165, 3) := by decide +kernel
theorem dX6_append_66 : decode cX6_append 66 = .ok (.ireturn, 1) := by decide +kernel
theorem dX6_clearBuffer_0 : decode cX6_clearBuffer 0 = .ok (.aload_n 0, 1) := by decide +kernel
theorem dX6_clearBuffer_1 : decode cX6_clearBuffer 1 = .ok (.iconst 0, 1) := by decide +kernel
theorem dX6_clearBuffer_2 : decode cX6_clearBuffer 2 = .ok (.putfield 31, 3) := by decide +kernel
theorem dX6_clearBuffer_5 : decode cX6_clearBuffer 5 = .ok (.aload_n 0, 1) := by decide +kernel
theorem dX6_clearBuffer_6 : decode cX6_clearBuffer 6 = .ok (.getfield 165, 3) := by decide +kernel
theorem dX6_clearBuffer_9 : decode cX6_clearBuffer 9 = .ok (.istore_n 1, 1) := by decide +kernel
theorem dX6_clearBuffer_10 : decode cX6_clearBuffer 10 = .ok (.aload_n 0, 1) := by decide +kernel
theorem dX6_clearBuffer_11 : decode cX6_clearBuffer 11 = .ok (.iconst 0, 1) := by decide +kernel
theorem dX6_clearBuffer_12 : decode cX6_clearBuffer 12 = .ok (.putfield 165, 3) := by decide +kernel
theorem dX6_clearBuffer_15 : decode cX6_clearBuffer 15 = .ok (.iload_n 1, 1) := by decide +kernel
theorem dX6_clearBuffer_16 : decode cX6_clearBuffer 16 = .ok (.ireturn, 1) := by decide +kernel
theorem dX6_slotsOf_0 : decode cX6_slotsOf 0 = .ok (.iload_n 0, 1) := by decide +kernel
theorem dX6_slotsOf_1 : decode cX6_slotsOf 1 = .ok (.tableswitch 107 98 119 #[103, 103, 107, 105, 107, 107, 107, 105, 107, 107, 105, 107, 107, 107, 103, 107, 107, 103, 107, 107, 107, 103], 103) := by decide +kernel
theorem dX6_slotsOf_104 : decode cX6_slotsOf 104 = .ok (.iconst 2, 1) := by decide +kernel
theorem dX6_slotsOf_105 : decode cX6_slotsOf 105 = .ok (.ireturn, 1) := by decide +kernel
theorem dX6_slotsOf_106 : decode cX6_slotsOf 106 = .ok (.iconst 1, 1) := by decide +kernel
theorem dX6_slotsOf_107 : decode cX6_slotsOf 107 = .ok (.ireturn, 1) := by decide +kernel
theorem dX6_slotsOf_108 : decode cX6_slotsOf 108 = .ok (.iconst 0, 1) := by decide +kernel
theorem dX6_slotsOf_109 : decode cX6_slotsOf 109 = .ok (.ireturn, 1) := by decide +kernel
theorem dX6_takesSlot_0 : decode cX6_takesSlot 0 = .ok (.aload_n 0, 1) := by decide +kernel
theorem dX6_takesSlot_1 : decode cX6_takesSlot 1 = .ok (.getfield 168, 3) := by decide +kernel
theorem dX6_takesSlot_4 : decode cX6_takesSlot 4 = .ok (.iconst 1, 1) := by decide +kernel
theorem dX6_takesSlot_5 : decode cX6_takesSlot 5 = .ok (.if_icmp .ne 25, 3) := by decide +kernel
theorem dX6_takesSlot_8 : decode cX6_takesSlot 8 = .ok (.aload_n 0, 1) := by decide +kernel
theorem dX6_takesSlot_9 : decode cX6_takesSlot 9 = .ok (.getfield 28, 3) := by decide +kernel
theorem dX6_takesSlot_12 : decode cX6_takesSlot 12 = .ok (.iconst 4, 1) := by decide +kernel
theorem dX6_takesSlot_13 : decode cX6_takesSlot 13 = .ok (.aload_n 0, 1) := by decide +kernel
theorem dX6_takesSlot_14 : decode cX6_takesSlot 14 = .ok (.getfield 171, 3) := by decide +kernel
theorem dX6_takesSlot_17 : decode cX6_takesSlot 17 = .ok (.imul, 1) := by decide +kernel
theorem dX6_takesSlot_18 : decode cX6_takesSlot 18 = .ok (.iaload, 1) := by decide +kernel
theorem dX6_takesSlot_19 : decode cX6_takesSlot 19 = .ok (.invokestatic 174, 3) := by decide +kernel
theorem dX6_takesSlot_22 : decode cX6_takesSlot 22 = .ok (.iconst 1, 1) := by decide +kernel
theorem dX6_takesSlot_23 : decode cX6_takesSlot 23 = .ok (.if_icmp .ne 7, 3) := by decide +kernel
theorem dX6_takesSlot_26 : decode cX6_takesSlot 26 = .ok (.iconst 3, 1) := by decide +kernel
theorem dX6_takesSlot_27 : decode cX6_takesSlot 27 = .ok (.goto 9, 3) := by decide +kernel
theorem dX6_takesSlot_30 : decode cX6_takesSlot 30 = .ok (.aload_n 0, 1) := by decide +kernel
theorem dX6_takesSlot_31 : decode cX6_takesSlot 31 = .ok (.getfield 168, 3) := by decide +kernel
theorem dX6_takesSlot_34 : decode cX6_takesSlot 34 = .ok (.iconst 1, 1) := by decide +kernel
theorem dX6_takesSlot_35 : decode cX6_takesSlot 35 = .ok (.iadd, 1) := by decide +kernel
theorem dX6_takesSlot_36 : decode cX6_takesSlot 36 = .ok (.istore_n 2, 1) := by decide +kernel
theorem dX6_takesSlot_37 : decode cX6_takesSlot 37 = .ok (.aload_n 0, 1) := by decide +kernel
theorem dX6_takesSlot_38 : decode cX6_takesSlot 38 = .ok (.getfield 28, 3) := by decide +kernel
theorem dX6_takesSlot_41 : decode cX6_takesSlot 41 = .ok (.iconst 4, 1) := by decide +kernel
theorem dX6_takesSlot_42 : decode cX6_takesSlot 42 = .ok (.aload_n 0, 1) := by decide +kernel
theorem dX6_takesSlot_43 : decode cX6_takesSlot 43 = .ok (.getfield 171, 3) := by decide +kernel
theorem dX6_takesSlot_46 : decode cX6_takesSlot 46 = .ok (.imul, 1) := by decide +kernel
theorem dX6_takesSlot_47 : decode cX6_takesSlot 47 = .ok (.aload_n 0, 1) := by decide +kernel
theorem dX6_takesSlot_48 : decode cX6_takesSlot 48 = .ok (.getfield 168, 3) := by decide +kernel
theorem dX6_takesSlot_51 : decode cX6_takesSlot 51 = .ok (.iconst 4, 1) := by decide +kernel
theorem dX6_takesSlot_52 : decode cX6_takesSlot 52 = .ok (.if_icmp .ne 7, 3) := by decide +kernel
theorem dX6_takesSlot_55 : decode cX6_takesSlot 55 = .ok (.iconst 3, 1) := by decide +kernel
theorem dX6_takesSlot_56 : decode cX6_takesSlot 56 = .ok (.goto 7, 3) := by decide +kernel
theorem dX6_takesSlot_59 : decode cX6_takesSlot 59 = .ok (.aload_n 0, 1) := by decide +kernel
theorem dX6_takesSlot_60 : decode cX6_takesSlot 60 = .ok (.getfield 168, 3) := by decide +kernel
theorem dX6_takesSlot_63 : decode cX6_takesSlot 63 = .ok (.iadd, 1) := by decide +kernel
theorem dX6_takesSlot_64 : decode cX6_takesSlot 64 = .ok (.iload_n 1, 1) := by decide +kernel
theorem dX6_takesSlot_65 : decode cX6_takesSlot 65 = .ok (.bipush 48, 2) := by decide +kernel
theorem dX6_takesSlot_67 : decode cX6_takesSlot 67 = .ok (.isub, 1) := by decide +kernel
theorem dX6_takesSlot_68 : decode cX6_takesSlot 68 = .ok (.iastore, 1) := by decide +kernel
theorem dX6_takesSlot_69 : decode cX6_takesSlot 69 = .ok (.aload_n 0, 1) := by decide +kernel
theorem dX6_takesSlot_70 : decode cX6_takesSlot 70 = .ok (.iload_n 2, 1) := by decide +kernel
theorem dX6_takesSlot_71 : decode cX6_takesSlot 71 = .ok (.putfield 168, 3) := by decide +kernel
theorem dX6_takesSlot_74 : decode cX6_takesSlot 74 = .ok (.iload_n 1, 1) := by decide +kernel
theorem dX6_takesSlot_75 : decode cX6_takesSlot 75 = .ok (.bipush 48, 2) := by decide +kernel
theorem dX6_takesSlot_77 : decode cX6_takesSlot 77 = .ok (.bipush 53, 2) := by decide +kernel
theorem dX6_takesSlot_79 : decode cX6_takesSlot 79 = .ok (.invokestatic 38, 3) := by decide +kernel
theorem dX6_takesSlot_82 : decode cX6_takesSlot 82 = .ok (.ireturn, 1) := by decide +kernel
theorem dX6_takes_0 : decode cX6_takes 0 = .ok (.aload_n 0, 1) := by decide +kernel
theorem dX6_takes_1 : decode cX6_takes 1 = .ok (.getfield 168, 3) := by decide +kernel
theorem dX6_takes_4 : decode cX6_takes 4 = .ok (.lookupswitch 110 #[(0, 36), (3, 66), (5, 83)], 36) := by decide +kernel
theorem dX6_takes_40 : decode cX6_takes 40 = .ok (.aload_n 0, 1) := by decide +kernel
theorem dX6_takes_41 : decode cX6_takes 41 = .ok (.getfield 28, 3) := by decide +kernel
theorem dX6_takes_44 : decode cX6_takes 44 = .ok (.iconst 4, 1) := by decide +kernel
theorem dX6_takes_45 : decode cX6_takes 45 = .ok (.aload_n 0, 1) := by decide +kernel
theorem dX6_takes_46 : decode cX6_takes 46 = .ok (.getfield 171, 3) := by decide +kernel
theorem dX6_takes_49 : decode cX6_takes 49 = .ok (.imul, 1) := by decide +kernel
theorem dX6_takes_50 : decode cX6_takes 50 = .ok (.iload_n 1, 1) := by decide +kernel
theorem dX6_takes_51 : decode cX6_takes 51 = .ok (.iastore, 1) := by decide +kernel
theorem dX6_takes_52 : decode cX6_takes 52 = .ok (.aload_n 0, 1) := by decide +kernel
theorem dX6_takes_53 : decode cX6_takes 53 = .ok (.iconst 1, 1) := by decide +kernel
theorem dX6_takes_54 : decode cX6_takes 54 = .ok (.putfield 168, 3) := by decide +kernel
theorem dX6_takes_57 : decode cX6_takes 57 = .ok (.iload_n 1, 1) := by decide +kernel
theorem dX6_takes_58 : decode cX6_takes 58 = .ok (.invokestatic 174, 3) := by decide +kernel
theorem dX6_takes_61 : decode cX6_takes 61 = .ok (.ifCond .le 7, 3) := by decide +kernel
theorem dX6_takes_64 : decode cX6_takes 64 = .ok (.iconst 1, 1) := by decide +kernel
theorem dX6_takes_65 : decode cX6_takes 65 = .ok (.goto 4, 3) := by decide +kernel
theorem dX6_takes_68 : decode cX6_takes 68 = .ok (.iconst 0, 1) := by decide +kernel
theorem dX6_takes_69 : decode cX6_takes 69 = .ok (.ireturn, 1) := by decide +kernel
theorem dX6_takes_70 : decode cX6_takes 70 = .ok (.aload_n 0, 1) := by decide +kernel
theorem dX6_takes_71 : decode cX6_takes 71 = .ok (.iconst 4, 1) := by decide +kernel
theorem dX6_takes_72 : decode cX6_takes 72 = .ok (.putfield 168, 3) := by decide +kernel
theorem dX6_takes_75 : decode cX6_takes 75 = .ok (.iload_n 1, 1) := by decide +kernel
theorem dX6_takes_76 : decode cX6_takes 76 = .ok (.bipush 62, 2) := by decide +kernel
theorem dX6_takes_78 : decode cX6_takes 78 = .ok (.if_icmp .ne 7, 3) := by decide +kernel
theorem dX6_takes_81 : decode cX6_takes 81 = .ok (.iconst 1, 1) := by decide +kernel
theorem dX6_takes_82 : decode cX6_takes 82 = .ok (.goto 4, 3) := by decide +kernel
theorem dX6_takes_85 : decode cX6_takes 85 = .ok (.iconst 0, 1) := by decide +kernel
theorem dX6_takes_86 : decode cX6_takes 86 = .ok (.ireturn, 1) := by decide +kernel
theorem dX6_takes_87 : decode cX6_takes 87 = .ok (.aload_n 0, 1) := by decide +kernel
theorem dX6_takes_88 : decode cX6_takes 88 = .ok (.dup, 1) := by decide +kernel
theorem dX6_takes_89 : decode cX6_takes 89 = .ok (.getfield 171, 3) := by decide +kernel
theorem dX6_takes_92 : decode cX6_takes 92 = .ok (.iconst 1, 1) := by decide +kernel
theorem dX6_takes_93 : decode cX6_takes 93 = .ok (.iadd, 1) := by decide +kernel
theorem dX6_takes_94 : decode cX6_takes 94 = .ok (.putfield 171, 3) := by decide +kernel
theorem dX6_takes_97 : decode cX6_takes 97 = .ok (.aload_n 0, 1) := by decide +kernel
theorem dX6_takes_98 : decode cX6_takes 98 = .ok (.iconst 0, 1) := by decide +kernel
theorem dX6_takes_99 : decode cX6_takes 99 = .ok (.putfield 168, 3) := by decide +kernel
theorem dX6_takes_102 : decode cX6_takes 102 = .ok (.iload_n 1, 1) := by decide +kernel
theorem dX6_takes_103 : decode cX6_takes 103 = .ok (.bipush 59, 2) := by decide +kernel
theorem dX6_takes_105 : decode cX6_takes 105 = .ok (.if_icmp .ne 7, 3) := by decide +kernel
theorem dX6_takes_108 : decode cX6_takes 108 = .ok (.iconst 1, 1) := by decide +kernel
theorem dX6_takes_109 : decode cX6_takes 109 = .ok (.goto 4, 3) := by decide +kernel
theorem dX6_takes_112 : decode cX6_takes 112 = .ok (.iconst 0, 1) := by decide +kernel
theorem dX6_takes_113 : decode cX6_takes 113 = .ok (.ireturn, 1) := by decide +kernel
theorem dX6_takes_114 : decode cX6_takes 114 = .ok (.aload_n 0, 1) := by decide +kernel
theorem dX6_takes_115 : decode cX6_takes 115 = .ok (.iload_n 1, 1) := by decide +kernel
theorem dX6_takes_116 : decode cX6_takes 116 = .ok (.invokevirtual 177, 3) := by decide +kernel
theorem dX6_takes_119 : decode cX6_takes 119 = .ok (.ireturn, 1) := by decide +kernel
theorem dX6_rightUpTo_0 : decode cX6_rightUpTo 0 = .ok (.aload_n 0, 1) := by decide +kernel
theorem dX6_rightUpTo_1 : decode cX6_rightUpTo 1 = .ok (.iconst 0, 1) := by decide +kernel
theorem dX6_rightUpTo_2 : decode cX6_rightUpTo 2 = .ok (.putfield 171, 3) := by decide +kernel
theorem dX6_rightUpTo_5 : decode cX6_rightUpTo 5 = .ok (.aload_n 0, 1) := by decide +kernel
theorem dX6_rightUpTo_6 : decode cX6_rightUpTo 6 = .ok (.iconst 0, 1) := by decide +kernel
theorem dX6_rightUpTo_7 : decode cX6_rightUpTo 7 = .ok (.putfield 168, 3) := by decide +kernel
theorem dX6_rightUpTo_10 : decode cX6_rightUpTo 10 = .ok (.iconst 0, 1) := by decide +kernel
theorem dX6_rightUpTo_11 : decode cX6_rightUpTo 11 = .ok (.istore_n 1, 1) := by decide +kernel
theorem dX6_rightUpTo_12 : decode cX6_rightUpTo 12 = .ok (.iload_n 1, 1) := by decide +kernel
theorem dX6_rightUpTo_13 : decode cX6_rightUpTo 13 = .ok (.aload_n 0, 1) := by decide +kernel
theorem dX6_rightUpTo_14 : decode cX6_rightUpTo 14 = .ok (.getfield 165, 3) := by decide +kernel
theorem dX6_rightUpTo_17 : decode cX6_rightUpTo 17 = .ok (.if_icmp .ge 22, 3) := by decide +kernel
theorem dX6_rightUpTo_20 : decode cX6_rightUpTo 20 = .ok (.aload_n 0, 1) := by decide +kernel
theorem dX6_rightUpTo_21 : decode cX6_rightUpTo 21 = .ok (.aload_n 0, 1) := by decide +kernel
theorem dX6_rightUpTo_22 : decode cX6_rightUpTo 22 = .ok (.getfield 25, 3) := by decide +kernel
theorem dX6_rightUpTo_25 : decode cX6_rightUpTo 25 = .ok (.iload_n 1, 1) := by decide +kernel
theorem dX6_rightUpTo_26 : decode cX6_rightUpTo 26 = .ok (.iaload, 1) := by decide +kernel
theorem dX6_rightUpTo_27 : decode cX6_rightUpTo 27 = .ok (.invokevirtual 180, 3) := by decide +kernel
theorem dX6_rightUpTo_30 : decode cX6_rightUpTo 30 = .ok (.ifCond .eq 9, 3) := by decide +kernel
theorem dX6_rightUpTo_33 : decode cX6_rightUpTo 33 = .ok (.iinc 1 1, 3) := by decide +kernel
theorem dX6_rightUpTo_36 : decode cX6_rightUpTo 36 = .ok (.goto (-24), 3) := by decide +kernel
theorem dX6_rightUpTo_39 : decode cX6_rightUpTo 39 = .ok (.iload_n 1, 1) := by decide +kernel
theorem dX6_rightUpTo_40 : decode cX6_rightUpTo 40 = .ok (.ireturn, 1) := by decide +kernel
theorem dX6_firstError_0 : decode cX6_firstError 0 = .ok (.aload_n 0, 1) := by decide +kernel
theorem dX6_firstError_1 : decode cX6_firstError 1 = .ok (.iconst 0, 1) := by decide +kernel
theorem dX6_firstError_2 : decode cX6_firstError 2 = .ok (.putfield 31, 3) := by decide +kernel
theorem dX6_firstError_5 : decode cX6_firstError 5 = .ok (.aload_n 0, 1) := by decide +kernel
theorem dX6_firstError_6 : decode cX6_firstError 6 = .ok (.invokevirtual 183, 3) := by decide +kernel
theorem dX6_firstError_9 : decode cX6_firstError 9 = .ok (.ireturn, 1) := by decide +kernel
theorem dX6_workOf_0 : decode cX6_workOf 0 = .ok (.iload_n 0, 1) := by decide +kernel
theorem dX6_workOf_1 : decode cX6_workOf 1 = .ok (.lookupswitch 74 #[(98, 59), (101, 66), (108, 68), (112, 71), (115, 61), (119, 63)], 59) := by decide +kernel
theorem dX6_workOf_60 : decode cX6_workOf 60 = .ok (.iconst 2, 1) := by decide +kernel
theorem dX6_workOf_61 : decode cX6_workOf 61 = .ok (.ireturn, 1) := by decide +kernel
theorem dX6_workOf_62 : decode cX6_workOf 62 = .ok (.iconst 1, 1) := by decide +kernel
theorem dX6_workOf_63 : decode cX6_workOf 63 = .ok (.ireturn, 1) := by decide +kernel
theorem dX6_workOf_64 : decode cX6_workOf 64 = .ok (.bipush 20, 2) := by decide +kernel
theorem dX6_workOf_66 : decode cX6_workOf 66 = .ok (.ireturn, 1) := by decide +kernel
theorem dX6_workOf_67 : decode cX6_workOf 67 = .ok (.iconst 5, 1) := by decide +kernel
theorem dX6_workOf_68 : decode cX6_workOf 68 = .ok (.ireturn, 1) := by decide +kernel
theorem dX6_workOf_69 : decode cX6_workOf 69 = .ok (.bipush 6, 2) := by decide +kernel
theorem dX6_workOf_71 : decode cX6_workOf 71 = .ok (.ireturn, 1) := by decide +kernel
theorem dX6_workOf_72 : decode cX6_workOf 72 = .ok (.bipush 6, 2) := by decide +kernel
theorem dX6_workOf_74 : decode cX6_workOf 74 = .ok (.ireturn, 1) := by decide +kernel
theorem dX6_workOf_75 : decode cX6_workOf 75 = .ok (.iconst 4, 1) := by decide +kernel
theorem dX6_workOf_76 : decode cX6_workOf 76 = .ok (.ireturn, 1) := by decide +kernel
theorem dX6_layOrder_0 : decode cX6_layOrder 0 = .ok (.iload_n 1, 1) := by decide +kernel
theorem dX6_layOrder_1 : decode cX6_layOrder 1 = .ok (.tableswitch 165 98 119 #[103, 156, 165, 131, 165, 165, 165, 165, 165, 165, 139, 165, 165, 165, 147, 165, 165, 112, 165, 165, 165, 121], 103) := by decide +kernel
theorem dX6_layOrder_104 : decode cX6_layOrder 104 = .ok (.aload_n 0, 1) := by decide +kernel
theorem dX6_layOrder_105 : decode cX6_layOrder 105 = .ok (.iload_n 2, 1) := by decide +kernel
theorem dX6_layOrder_106 : decode cX6_layOrder 106 = .ok (.iload_n 3, 1) := by decide +kernel
theorem dX6_layOrder_107 : decode cX6_layOrder 107 = .ok (.invokevirtual 123, 3) := by decide +kernel
theorem dX6_layOrder_110 : decode cX6_layOrder 110 = .ok (.goto 61, 3) := by decide +kernel
theorem dX6_layOrder_113 : decode cX6_layOrder 113 = .ok (.aload_n 0, 1) := by decide +kernel
theorem dX6_layOrder_114 : decode cX6_layOrder 114 = .ok (.iload_n 2, 1) := by decide +kernel
theorem dX6_layOrder_115 : decode cX6_layOrder 115 = .ok (.iload_n 3, 1) := by decide +kernel
theorem dX6_layOrder_116 : decode cX6_layOrder 116 = .ok (.invokevirtual 126, 3) := by decide +kernel
theorem dX6_layOrder_119 : decode cX6_layOrder 119 = .ok (.goto 52, 3) := by decide +kernel
theorem dX6_layOrder_122 : decode cX6_layOrder 122 = .ok (.aload_n 0, 1) := by decide +kernel
theorem dX6_layOrder_123 : decode cX6_layOrder 123 = .ok (.iload_n 2, 1) := by decide +kernel
theorem dX6_layOrder_124 : decode cX6_layOrder 124 = .ok (.iload_n 3, 1) := by decide +kernel
theorem dX6_layOrder_125 : decode cX6_layOrder 125 = .ok (.iconst 5, 1) := by decide +kernel
theorem dX6_layOrder_126 : decode cX6_layOrder 126 = .ok (.invokevirtual 135, 3) := by decide +kernel
theorem dX6_layOrder_129 : decode cX6_layOrder 129 = .ok (.goto 42, 3) := by decide +kernel
theorem dX6_layOrder_132 : decode cX6_layOrder 132 = .ok (.aload_n 0, 1) := by decide +kernel
theorem dX6_layOrder_133 : decode cX6_layOrder 133 = .ok (.iload_n 2, 1) := by decide +kernel
theorem dX6_layOrder_134 : decode cX6_layOrder 134 = .ok (.invokevirtual 153, 3) := by decide +kernel
theorem dX6_layOrder_137 : decode cX6_layOrder 137 = .ok (.goto 34, 3) := by decide +kernel
theorem dX6_layOrder_140 : decode cX6_layOrder 140 = .ok (.aload_n 0, 1) := by decide +kernel
theorem dX6_layOrder_141 : decode cX6_layOrder 141 = .ok (.iload_n 2, 1) := by decide +kernel
theorem dX6_layOrder_142 : decode cX6_layOrder 142 = .ok (.invokevirtual 150, 3) := by decide +kernel
theorem dX6_layOrder_145 : decode cX6_layOrder 145 = .ok (.goto 26, 3) := by decide +kernel
theorem dX6_layOrder_148 : decode cX6_layOrder 148 = .ok (.aload_n 0, 1) := by decide +kernel
theorem dX6_layOrder_149 : decode cX6_layOrder 149 = .ok (.iload_n 2, 1) := by decide +kernel
theorem dX6_layOrder_150 : decode cX6_layOrder 150 = .ok (.iload_n 3, 1) := by decide +kernel
theorem dX6_layOrder_151 : decode cX6_layOrder 151 = .ok (.invokevirtual 144, 3) := by decide +kernel
theorem dX6_layOrder_154 : decode cX6_layOrder 154 = .ok (.goto 17, 3) := by decide +kernel
theorem dX6_layOrder_157 : decode cX6_layOrder 157 = .ok (.aload_n 0, 1) := by decide +kernel
theorem dX6_layOrder_158 : decode cX6_layOrder 158 = .ok (.iload_n 2, 1) := by decide +kernel
theorem dX6_layOrder_159 : decode cX6_layOrder 159 = .ok (.iload_n 3, 1) := by decide +kernel
theorem dX6_layOrder_160 : decode cX6_layOrder 160 = .ok (.invokevirtual 156, 3) := by decide +kernel
theorem dX6_layOrder_163 : decode cX6_layOrder 163 = .ok (.goto 8, 3) := by decide +kernel
theorem dX6_layOrder_166 : decode cX6_layOrder 166 = .ok (.aload_n 0, 1) := by decide +kernel
theorem dX6_layOrder_167 : decode cX6_layOrder 167 = .ok (.iload_n 2, 1) := by decide +kernel
theorem dX6_layOrder_168 : decode cX6_layOrder 168 = .ok (.invokevirtual 159, 3) := by decide +kernel
theorem dX6_layOrder_171 : decode cX6_layOrder 171 = .ok (.return_, 1) := by decide +kernel
theorem dX6_carries_0 : decode cX6_carries 0 = .ok (.iconst 4, 1) := by decide +kernel
theorem dX6_carries_1 : decode cX6_carries 1 = .ok (.iload_n 1, 1) := by decide +kernel
theorem dX6_carries_2 : decode cX6_carries 2 = .ok (.imul, 1) := by decide +kernel
theorem dX6_carries_3 : decode cX6_carries 3 = .ok (.istore_n 2, 1) := by decide +kernel
theorem dX6_carries_4 : decode cX6_carries 4 = .ok (.aload_n 0, 1) := by decide +kernel
theorem dX6_carries_5 : decode cX6_carries 5 = .ok (.getfield 28, 3) := by decide +kernel
theorem dX6_carries_8 : decode cX6_carries 8 = .ok (.iload_n 2, 1) := by decide +kernel
theorem dX6_carries_9 : decode cX6_carries 9 = .ok (.iaload, 1) := by decide +kernel
theorem dX6_carries_10 : decode cX6_carries 10 = .ok (.istore_n 3, 1) := by decide +kernel
theorem dX6_carries_11 : decode cX6_carries 11 = .ok (.aload_n 0, 1) := by decide +kernel
theorem dX6_carries_12 : decode cX6_carries 12 = .ok (.iload_n 3, 1) := by decide +kernel
theorem dX6_carries_13 : decode cX6_carries 13 = .ok (.invokestatic 187, 3) := by decide +kernel
theorem dX6_carries_16 : decode cX6_carries 16 = .ok (.invokevirtual 106, 3) := by decide +kernel
theorem dX6_carries_19 : decode cX6_carries 19 = .ok (.istore 4, 2) := by decide +kernel
theorem dX6_carries_21 : decode cX6_carries 21 = .ok (.iload 4, 2) := by decide +kernel
theorem dX6_carries_23 : decode cX6_carries 23 = .ok (.ifCond .eq 109, 3) := by decide +kernel
theorem dX6_carries_26 : decode cX6_carries 26 = .ok (.aload_n 0, 1) := by decide +kernel
theorem dX6_carries_27 : decode cX6_carries 27 = .ok (.iload_n 3, 1) := by decide +kernel
theorem dX6_carries_28 : decode cX6_carries 28 = .ok (.aload_n 0, 1) := by decide +kernel
theorem dX6_carries_29 : decode cX6_carries 29 = .ok (.getfield 28, 3) := by decide +kernel
theorem dX6_carries_32 : decode cX6_carries 32 = .ok (.iload_n 2, 1) := by decide +kernel
theorem dX6_carries_33 : decode cX6_carries 33 = .ok (.iconst 1, 1) := by decide +kernel
theorem dX6_carries_34 : decode cX6_carries 34 = .ok (.iadd, 1) := by decide +kernel
theorem dX6_carries_35 : decode cX6_carries 35 = .ok (.iaload, 1) := by decide +kernel
theorem dX6_carries_36 : decode cX6_carries 36 = .ok (.aload_n 0, 1) := by decide +kernel
theorem dX6_carries_37 : decode cX6_carries 37 = .ok (.getfield 28, 3) := by decide +kernel
theorem dX6_carries_40 : decode cX6_carries 40 = .ok (.iload_n 2, 1) := by decide +kernel
theorem dX6_carries_41 : decode cX6_carries 41 = .ok (.iconst 2, 1) := by decide +kernel
theorem dX6_carries_42 : decode cX6_carries 42 = .ok (.iadd, 1) := by decide +kernel
theorem dX6_carries_43 : decode cX6_carries 43 = .ok (.iaload, 1) := by decide +kernel
theorem dX6_carries_44 : decode cX6_carries 44 = .ok (.invokevirtual 190, 3) := by decide +kernel
theorem dX6_carries_47 : decode cX6_carries 47 = .ok (.iload_n 3, 1) := by decide +kernel
theorem dX6_carries_48 : decode cX6_carries 48 = .ok (.bipush 101, 2) := by decide +kernel
theorem dX6_carries_50 : decode cX6_carries 50 = .ok (.if_icmp .eq 15, 3) := by decide +kernel
theorem dX6_carries_53 : decode cX6_carries 53 = .ok (.iload_n 3, 1) := by decide +kernel
theorem dX6_carries_54 : decode cX6_carries 54 = .ok (.bipush 99, 2) := by decide +kernel
theorem dX6_carries_56 : decode cX6_carries 56 = .ok (.if_icmp .eq 9, 3) := by decide +kernel
theorem dX6_carries_59 : decode cX6_carries 59 = .ok (.iload_n 3, 1) := by decide +kernel
theorem dX6_carries_60 : decode cX6_carries 60 = .ok (.bipush 105, 2) := by decide +kernel
theorem dX6_carries_62 : decode cX6_carries 62 = .ok (.if_icmp .ne 7, 3) := by decide +kernel
theorem dX6_carries_65 : decode cX6_carries 65 = .ok (.iconst 1, 1) := by decide +kernel
theorem dX6_carries_66 : decode cX6_carries 66 = .ok (.goto 4, 3) := by decide +kernel
theorem dX6_carries_69 : decode cX6_carries 69 = .ok (.iconst 0, 1) := by decide +kernel
theorem dX6_carries_70 : decode cX6_carries 70 = .ok (.istore 5, 2) := by decide +kernel
theorem dX6_carries_72 : decode cX6_carries 72 = .ok (.aload_n 0, 1) := by decide +kernel
theorem dX6_carries_73 : decode cX6_carries 73 = .ok (.getfield 7, 3) := by decide +kernel
theorem dX6_carries_76 : decode cX6_carries 76 = .ok (.iconst 4, 1) := by decide +kernel
theorem dX6_carries_77 : decode cX6_carries 77 = .ok (.dup2, 1) := by decide +kernel
theorem dX6_carries_78 : decode cX6_carries 78 = .ok (.iaload, 1) := by decide +kernel
theorem dX6_carries_79 : decode cX6_carries 79 = .ok (.iload_n 3, 1) := by decide +kernel
theorem dX6_carries_80 : decode cX6_carries 80 = .ok (.bipush 98, 2) := by decide +kernel
theorem dX6_carries_82 : decode cX6_carries 82 = .ok (.if_icmp .ne 7, 3) := by decide +kernel
theorem dX6_carries_85 : decode cX6_carries 85 = .ok (.iconst 1, 1) := by decide +kernel
theorem dX6_carries_86 : decode cX6_carries 86 = .ok (.goto 4, 3) := by decide +kernel
theorem dX6_carries_89 : decode cX6_carries 89 = .ok (.iconst 0, 1) := by decide +kernel
theorem dX6_carries_90 : decode cX6_carries 90 = .ok (.iadd, 1) := by decide +kernel
theorem dX6_carries_91 : decode cX6_carries 91 = .ok (.iastore, 1) := by decide +kernel
theorem dX6_carries_92 : decode cX6_carries 92 = .ok (.aload_n 0, 1) := by decide +kernel
theorem dX6_carries_93 : decode cX6_carries 93 = .ok (.iload_n 3, 1) := by decide +kernel
theorem dX6_carries_94 : decode cX6_carries 94 = .ok (.invokestatic 187, 3) := by decide +kernel
theorem dX6_carries_97 : decode cX6_carries 97 = .ok (.iload 5, 2) := by decide +kernel
theorem dX6_carries_99 : decode cX6_carries 99 = .ok (.ifCond .eq 17, 3) := by decide +kernel
theorem dX6_carries_102 : decode cX6_carries 102 = .ok (.aload_n 0, 1) := by decide +kernel
theorem dX6_carries_103 : decode cX6_carries 103 = .ok (.getfield 28, 3) := by decide +kernel
theorem dX6_carries_106 : decode cX6_carries 106 = .ok (.iload_n 2, 1) := by decide +kernel
theorem dX6_carries_107 : decode cX6_carries 107 = .ok (.iconst 3, 1) := by decide +kernel
theorem dX6_carries_108 : decode cX6_carries 108 = .ok (.iadd, 1) := by decide +kernel
theorem dX6_carries_109 : decode cX6_carries 109 = .ok (.iaload, 1) := by decide +kernel
theorem dX6_carries_110 : decode cX6_carries 110 = .ok (.invokestatic 138, 3) := by decide +kernel
theorem dX6_carries_113 : decode cX6_carries 113 = .ok (.goto 14, 3) := by decide +kernel
theorem dX6_carries_116 : decode cX6_carries 116 = .ok (.aload_n 0, 1) := by decide +kernel
theorem dX6_carries_117 : decode cX6_carries 117 = .ok (.getfield 28, 3) := by decide +kernel
theorem dX6_carries_120 : decode cX6_carries 120 = .ok (.iload_n 2, 1) := by decide +kernel
theorem dX6_carries_121 : decode cX6_carries 121 = .ok (.iconst 3, 1) := by decide +kernel
theorem dX6_carries_122 : decode cX6_carries 122 = .ok (.iadd, 1) := by decide +kernel
theorem dX6_carries_123 : decode cX6_carries 123 = .ok (.iaload, 1) := by decide +kernel
theorem dX6_carries_124 : decode cX6_carries 124 = .ok (.invokestatic 109, 3) := by decide +kernel
theorem dX6_carries_127 : decode cX6_carries 127 = .ok (.invokevirtual 103, 3) := by decide +kernel
theorem dX6_carries_130 : decode cX6_carries 130 = .ok (.istore 6, 2) := by decide +kernel
theorem dX6_carries_132 : decode cX6_carries 132 = .ok (.iload 4, 2) := by decide +kernel
theorem dX6_carries_134 : decode cX6_carries 134 = .ok (.ireturn, 1) := by decide +kernel
theorem dX6_run_0 : decode cX6_run 0 = .ok (.aload_n 0, 1) := by decide +kernel
theorem dX6_run_1 : decode cX6_run 1 = .ok (.invokevirtual 183, 3) := by decide +kernel
theorem dX6_run_4 : decode cX6_run 4 = .ok (.aload_n 0, 1) := by decide +kernel
theorem dX6_run_5 : decode cX6_run 5 = .ok (.getfield 165, 3) := by decide +kernel
theorem dX6_run_8 : decode cX6_run 8 = .ok (.if_icmp .ne 15, 3) := by decide +kernel
theorem dX6_run_11 : decode cX6_run 11 = .ok (.aload_n 0, 1) := by decide +kernel
theorem dX6_run_12 : decode cX6_run 12 = .ok (.getfield 168, 3) := by decide +kernel
theorem dX6_run_15 : decode cX6_run 15 = .ok (.iconst 5, 1) := by decide +kernel
theorem dX6_run_16 : decode cX6_run 16 = .ok (.if_icmp .ne 7, 3) := by decide +kernel
theorem dX6_run_19 : decode cX6_run 19 = .ok (.iconst 1, 1) := by decide +kernel
theorem dX6_run_20 : decode cX6_run 20 = .ok (.goto 4, 3) := by decide +kernel
theorem dX6_run_23 : decode cX6_run 23 = .ok (.iconst 0, 1) := by decide +kernel
theorem dX6_run_24 : decode cX6_run 24 = .ok (.istore_n 1, 1) := by decide +kernel
theorem dX6_run_25 : decode cX6_run 25 = .ok (.aload_n 0, 1) := by decide +kernel
theorem dX6_run_26 : decode cX6_run 26 = .ok (.iload_n 1, 1) := by decide +kernel
theorem dX6_run_27 : decode cX6_run 27 = .ok (.ifCond .eq 7, 3) := by decide +kernel
theorem dX6_run_30 : decode cX6_run 30 = .ok (.iconst 0, 1) := by decide +kernel
theorem dX6_run_31 : decode cX6_run 31 = .ok (.goto 4, 3) := by decide +kernel
theorem dX6_run_34 : decode cX6_run 34 = .ok (.iconst 1, 1) := by decide +kernel
theorem dX6_run_35 : decode cX6_run 35 = .ok (.putfield 31, 3) := by decide +kernel
theorem dX6_run_38 : decode cX6_run 38 = .ok (.aload_n 0, 1) := by decide +kernel
theorem dX6_run_39 : decode cX6_run 39 = .ok (.getfield 31, 3) := by decide +kernel
theorem dX6_run_42 : decode cX6_run 42 = .ok (.ifCond .le 5, 3) := by decide +kernel
theorem dX6_run_45 : decode cX6_run 45 = .ok (.iconst 0, 1) := by decide +kernel
theorem dX6_run_46 : decode cX6_run 46 = .ok (.ireturn, 1) := by decide +kernel
theorem dX6_run_47 : decode cX6_run 47 = .ok (.aload_n 0, 1) := by decide +kernel
theorem dX6_run_48 : decode cX6_run 48 = .ok (.invokevirtual 87, 3) := by decide +kernel
theorem dX6_run_51 : decode cX6_run 51 = .ok (.aload_n 0, 1) := by decide +kernel
theorem dX6_run_52 : decode cX6_run 52 = .ok (.iconst 0, 1) := by decide +kernel
theorem dX6_run_53 : decode cX6_run 53 = .ok (.putfield 165, 3) := by decide +kernel
theorem dX6_run_56 : decode cX6_run 56 = .ok (.iconst 0, 1) := by decide +kernel
theorem dX6_run_57 : decode cX6_run 57 = .ok (.istore_n 2, 1) := by decide +kernel
theorem dX6_run_58 : decode cX6_run 58 = .ok (.iload_n 2, 1) := by decide +kernel
theorem dX6_run_59 : decode cX6_run 59 = .ok (.aload_n 0, 1) := by decide +kernel
theorem dX6_run_60 : decode cX6_run 60 = .ok (.getfield 171, 3) := by decide +kernel
theorem dX6_run_63 : decode cX6_run 63 = .ok (.if_icmp .gt 17, 3) := by decide +kernel
theorem dX6_run_66 : decode cX6_run 66 = .ok (.aload_n 0, 1) := by decide +kernel
theorem dX6_run_67 : decode cX6_run 67 = .ok (.iload_n 2, 1) := by decide +kernel
theorem dX6_run_68 : decode cX6_run 68 = .ok (.invokevirtual 193, 3) := by decide +kernel
theorem dX6_run_71 : decode cX6_run 71 = .ok (.ifCond .eq 9, 3) := by decide +kernel
theorem dX6_run_74 : decode cX6_run 74 = .ok (.iinc 2 1, 3) := by decide +kernel
theorem dX6_run_77 : decode cX6_run 77 = .ok (.goto (-19), 3) := by decide +kernel
theorem dX6_run_80 : decode cX6_run 80 = .ok (.iload_n 2, 1) := by decide +kernel
theorem dX6_run_81 : decode cX6_run 81 = .ok (.ireturn, 1) := by decide +kernel
theorem dX6_fieldsNotZero_0 : decode cX6_fieldsNotZero 0 = .ok (.iconst 0, 1) := by decide +kernel
theorem dX6_fieldsNotZero_1 : decode cX6_fieldsNotZero 1 = .ok (.istore_n 1, 1) := by decide +kernel
theorem dX6_fieldsNotZero_2 : decode cX6_fieldsNotZero 2 = .ok (.iconst 0, 1) := by decide +kernel
theorem dX6_fieldsNotZero_3 : decode cX6_fieldsNotZero 3 = .ok (.istore_n 2, 1) := by decide +kernel
theorem dX6_fieldsNotZero_4 : decode cX6_fieldsNotZero 4 = .ok (.iload_n 2, 1) := by decide +kernel
theorem dX6_fieldsNotZero_5 : decode cX6_fieldsNotZero 5 = .ok (.bipush 6, 2) := by decide +kernel
theorem dX6_fieldsNotZero_7 : decode cX6_fieldsNotZero 7 = .ok (.if_icmp .ge 35, 3) := by decide +kernel
theorem dX6_fieldsNotZero_10 : decode cX6_fieldsNotZero 10 = .ok (.aload_n 0, 1) := by decide +kernel
theorem dX6_fieldsNotZero_11 : decode cX6_fieldsNotZero 11 = .ok (.iload_n 2, 1) := by decide +kernel
theorem dX6_fieldsNotZero_12 : decode cX6_fieldsNotZero 12 = .ok (.invokestatic 109, 3) := by decide +kernel
theorem dX6_fieldsNotZero_15 : decode cX6_fieldsNotZero 15 = .ok (.iconst 0, 1) := by decide +kernel
theorem dX6_fieldsNotZero_16 : decode cX6_fieldsNotZero 16 = .ok (.invokevirtual 112, 3) := by decide +kernel
theorem dX6_fieldsNotZero_19 : decode cX6_fieldsNotZero 19 = .ok (.iload_n 1, 1) := by decide +kernel
theorem dX6_fieldsNotZero_20 : decode cX6_fieldsNotZero 20 = .ok (.aload_n 0, 1) := by decide +kernel
theorem dX6_fieldsNotZero_21 : decode cX6_fieldsNotZero 21 = .ok (.iconst 0, 1) := by decide +kernel
theorem dX6_fieldsNotZero_22 : decode cX6_fieldsNotZero 22 = .ok (.invokevirtual 100, 3) := by decide +kernel
theorem dX6_fieldsNotZero_25 : decode cX6_fieldsNotZero 25 = .ok (.iconst (-1), 1) := by decide +kernel
theorem dX6_fieldsNotZero_26 : decode cX6_fieldsNotZero 26 = .ok (.if_icmp .ne 7, 3) := by decide +kernel
theorem dX6_fieldsNotZero_29 : decode cX6_fieldsNotZero 29 = .ok (.iconst 0, 1) := by decide +kernel
theorem dX6_fieldsNotZero_30 : decode cX6_fieldsNotZero 30 = .ok (.goto 4, 3) := by decide +kernel
theorem dX6_fieldsNotZero_33 : decode cX6_fieldsNotZero 33 = .ok (.iconst 1, 1) := by decide +kernel
theorem dX6_fieldsNotZero_34 : decode cX6_fieldsNotZero 34 = .ok (.iadd, 1) := by decide +kernel
theorem dX6_fieldsNotZero_35 : decode cX6_fieldsNotZero 35 = .ok (.istore_n 1, 1) := by decide +kernel
theorem dX6_fieldsNotZero_36 : decode cX6_fieldsNotZero 36 = .ok (.iinc 2 1, 3) := by decide +kernel
theorem dX6_fieldsNotZero_39 : decode cX6_fieldsNotZero 39 = .ok (.goto (-35), 3) := by decide +kernel
theorem dX6_fieldsNotZero_42 : decode cX6_fieldsNotZero 42 = .ok (.iload_n 1, 1) := by decide +kernel
theorem dX6_fieldsNotZero_43 : decode cX6_fieldsNotZero 43 = .ok (.ireturn, 1) := by decide +kernel
theorem dX6_flowsNotX_0 : decode cX6_flowsNotX 0 = .ok (.iconst 0, 1) := by decide +kernel
theorem dX6_flowsNotX_1 : decode cX6_flowsNotX 1 = .ok (.istore_n 1, 1) := by decide +kernel
theorem dX6_flowsNotX_2 : decode cX6_flowsNotX 2 = .ok (.iconst 0, 1) := by decide +kernel
theorem dX6_flowsNotX_3 : decode cX6_flowsNotX 3 = .ok (.istore_n 2, 1) := by decide +kernel
theorem dX6_flowsNotX_4 : decode cX6_flowsNotX 4 = .ok (.iload_n 2, 1) := by decide +kernel
theorem dX6_flowsNotX_5 : decode cX6_flowsNotX 5 = .ok (.bipush 6, 2) := by decide +kernel
theorem dX6_flowsNotX_7 : decode cX6_flowsNotX 7 = .ok (.if_icmp .ge 35, 3) := by decide +kernel
theorem dX6_flowsNotX_10 : decode cX6_flowsNotX 10 = .ok (.aload_n 0, 1) := by decide +kernel
theorem dX6_flowsNotX_11 : decode cX6_flowsNotX 11 = .ok (.iload_n 2, 1) := by decide +kernel
theorem dX6_flowsNotX_12 : decode cX6_flowsNotX 12 = .ok (.invokestatic 138, 3) := by decide +kernel
theorem dX6_flowsNotX_15 : decode cX6_flowsNotX 15 = .ok (.iconst 0, 1) := by decide +kernel
theorem dX6_flowsNotX_16 : decode cX6_flowsNotX 16 = .ok (.invokevirtual 112, 3) := by decide +kernel
theorem dX6_flowsNotX_19 : decode cX6_flowsNotX 19 = .ok (.iload_n 1, 1) := by decide +kernel
theorem dX6_flowsNotX_20 : decode cX6_flowsNotX 20 = .ok (.aload_n 0, 1) := by decide +kernel
theorem dX6_flowsNotX_21 : decode cX6_flowsNotX 21 = .ok (.iconst 0, 1) := by decide +kernel
theorem dX6_flowsNotX_22 : decode cX6_flowsNotX 22 = .ok (.invokevirtual 100, 3) := by decide +kernel
theorem dX6_flowsNotX_25 : decode cX6_flowsNotX 25 = .ok (.iconst (-1), 1) := by decide +kernel
theorem dX6_flowsNotX_26 : decode cX6_flowsNotX 26 = .ok (.if_icmp .ne 7, 3) := by decide +kernel
theorem dX6_flowsNotX_29 : decode cX6_flowsNotX 29 = .ok (.iconst 0, 1) := by decide +kernel
theorem dX6_flowsNotX_30 : decode cX6_flowsNotX 30 = .ok (.goto 4, 3) := by decide +kernel
theorem dX6_flowsNotX_33 : decode cX6_flowsNotX 33 = .ok (.iconst 1, 1) := by decide +kernel
theorem dX6_flowsNotX_34 : decode cX6_flowsNotX 34 = .ok (.iadd, 1) := by decide +kernel
theorem dX6_flowsNotX_35 : decode cX6_flowsNotX 35 = .ok (.istore_n 1, 1) := by decide +kernel
theorem dX6_flowsNotX_36 : decode cX6_flowsNotX 36 = .ok (.iinc 2 1, 3) := by decide +kernel
theorem dX6_flowsNotX_39 : decode cX6_flowsNotX 39 = .ok (.goto (-35), 3) := by decide +kernel
theorem dX6_flowsNotX_42 : decode cX6_flowsNotX 42 = .ok (.iload_n 1, 1) := by decide +kernel
theorem dX6_flowsNotX_43 : decode cX6_flowsNotX 43 = .ok (.ireturn, 1) := by decide +kernel
theorem dX6_isSnapshot_0 : decode cX6_isSnapshot 0 = .ok (.iload_n 0, 1) := by decide +kernel
theorem dX6_isSnapshot_1 : decode cX6_isSnapshot 1 = .ok (.iconst 0, 1) := by decide +kernel
theorem dX6_isSnapshot_2 : decode cX6_isSnapshot 2 = .ok (.iconst 1, 1) := by decide +kernel
theorem dX6_isSnapshot_3 : decode cX6_isSnapshot 3 = .ok (.invokestatic 38, 3) := by decide +kernel
theorem dX6_isSnapshot_6 : decode cX6_isSnapshot 6 = .ok (.ireturn, 1) := by decide +kernel
theorem dX6_isKept_0 : decode cX6_isKept 0 = .ok (.iload_n 0, 1) := by decide +kernel
theorem dX6_isKept_1 : decode cX6_isKept 1 = .ok (.ifCond .eq 8, 3) := by decide +kernel
theorem dX6_isKept_4 : decode cX6_isKept 4 = .ok (.iload_n 0, 1) := by decide +kernel
theorem dX6_isKept_5 : decode cX6_isKept 5 = .ok (.iconst 5, 1) := by decide +kernel
theorem dX6_isKept_6 : decode cX6_isKept 6 = .ok (.if_icmp .lt 7, 3) := by decide +kernel
theorem dX6_isKept_9 : decode cX6_isKept 9 = .ok (.iconst 1, 1) := by decide +kernel
theorem dX6_isKept_10 : decode cX6_isKept 10 = .ok (.goto 4, 3) := by decide +kernel
theorem dX6_isKept_13 : decode cX6_isKept 13 = .ok (.iconst 0, 1) := by decide +kernel
theorem dX6_isKept_14 : decode cX6_isKept 14 = .ok (.ireturn, 1) := by decide +kernel
theorem dX6_take_0 : decode cX6_take 0 = .ok (.aload_n 0, 1) := by decide +kernel
theorem dX6_take_1 : decode cX6_take 1 = .ok (.iload_n 1, 1) := by decide +kernel
theorem dX6_take_2 : decode cX6_take 2 = .ok (.invokestatic 196, 3) := by decide +kernel
theorem dX6_take_5 : decode cX6_take 5 = .ok (.ifCond .eq 7, 3) := by decide +kernel
theorem dX6_take_8 : decode cX6_take 8 = .ok (.iconst 0, 1) := by decide +kernel
theorem dX6_take_9 : decode cX6_take 9 = .ok (.goto 4, 3) := by decide +kernel
theorem dX6_take_12 : decode cX6_take 12 = .ok (.iconst 1, 1) := by decide +kernel
theorem dX6_take_13 : decode cX6_take 13 = .ok (.putfield 31, 3) := by decide +kernel
theorem dX6_take_16 : decode cX6_take 16 = .ok (.aload_n 0, 1) := by decide +kernel
theorem dX6_take_17 : decode cX6_take 17 = .ok (.getfield 31, 3) := by decide +kernel
theorem dX6_take_20 : decode cX6_take 20 = .ok (.ifCond .le 5, 3) := by decide +kernel
theorem dX6_take_23 : decode cX6_take 23 = .ok (.iconst 0, 1) := by decide +kernel
theorem dX6_take_24 : decode cX6_take 24 = .ok (.ireturn, 1) := by decide +kernel
theorem dX6_take_25 : decode cX6_take 25 = .ok (.aload_n 0, 1) := by decide +kernel
theorem dX6_take_26 : decode cX6_take 26 = .ok (.getfield 19, 3) := by decide +kernel
theorem dX6_take_29 : decode cX6_take 29 = .ok (.iload_n 1, 1) := by decide +kernel
theorem dX6_take_30 : decode cX6_take 30 = .ok (.iconst 1, 1) := by decide +kernel
theorem dX6_take_31 : decode cX6_take 31 = .ok (.iastore, 1) := by decide +kernel
theorem dX6_take_32 : decode cX6_take 32 = .ok (.iconst 0, 1) := by decide +kernel
theorem dX6_take_33 : decode cX6_take 33 = .ok (.istore_n 2, 1) := by decide +kernel
theorem dX6_take_34 : decode cX6_take 34 = .ok (.iload_n 2, 1) := by decide +kernel
theorem dX6_take_35 : decode cX6_take 35 = .ok (.bipush 89, 2) := by decide +kernel
theorem dX6_take_37 : decode cX6_take 37 = .ok (.if_icmp .ge 26, 3) := by decide +kernel
theorem dX6_take_40 : decode cX6_take 40 = .ok (.aload_n 0, 1) := by decide +kernel
theorem dX6_take_41 : decode cX6_take 41 = .ok (.getfield 16, 3) := by decide +kernel
theorem dX6_take_44 : decode cX6_take 44 = .ok (.bipush 89, 2) := by decide +kernel
theorem dX6_take_46 : decode cX6_take 46 = .ok (.iload_n 1, 1) := by decide +kernel
theorem dX6_take_47 : decode cX6_take 47 = .ok (.imul, 1) := by decide +kernel
theorem dX6_take_48 : decode cX6_take 48 = .ok (.iload_n 2, 1) := by decide +kernel
theorem dX6_take_49 : decode cX6_take 49 = .ok (.iadd, 1) := by decide +kernel
theorem dX6_take_50 : decode cX6_take 50 = .ok (.aload_n 0, 1) := by decide +kernel
theorem dX6_take_51 : decode cX6_take 51 = .ok (.getfield 7, 3) := by decide +kernel
theorem dX6_take_54 : decode cX6_take 54 = .ok (.iload_n 2, 1) := by decide +kernel
theorem dX6_take_55 : decode cX6_take 55 = .ok (.iaload, 1) := by decide +kernel
theorem dX6_take_56 : decode cX6_take 56 = .ok (.iastore, 1) := by decide +kernel
theorem dX6_take_57 : decode cX6_take 57 = .ok (.iinc 2 1, 3) := by decide +kernel
theorem dX6_take_60 : decode cX6_take 60 = .ok (.goto (-26), 3) := by decide +kernel
theorem dX6_take_63 : decode cX6_take 63 = .ok (.aload_n 0, 1) := by decide +kernel
theorem dX6_take_64 : decode cX6_take 64 = .ok (.invokevirtual 199, 3) := by decide +kernel
theorem dX6_take_67 : decode cX6_take 67 = .ok (.ireturn, 1) := by decide +kernel
theorem dX6_restore_0 : decode cX6_restore 0 = .ok (.aload_n 0, 1) := by decide +kernel
theorem dX6_restore_1 : decode cX6_restore 1 = .ok (.iload_n 1, 1) := by decide +kernel
theorem dX6_restore_2 : decode cX6_restore 2 = .ok (.invokestatic 196, 3) := by decide +kernel
theorem dX6_restore_5 : decode cX6_restore 5 = .ok (.ifCond .eq 7, 3) := by decide +kernel
theorem dX6_restore_8 : decode cX6_restore 8 = .ok (.iconst 0, 1) := by decide +kernel
theorem dX6_restore_9 : decode cX6_restore 9 = .ok (.goto 4, 3) := by decide +kernel
theorem dX6_restore_12 : decode cX6_restore 12 = .ok (.iconst 1, 1) := by decide +kernel
theorem dX6_restore_13 : decode cX6_restore 13 = .ok (.putfield 31, 3) := by decide +kernel
theorem dX6_restore_16 : decode cX6_restore 16 = .ok (.aload_n 0, 1) := by decide +kernel
theorem dX6_restore_17 : decode cX6_restore 17 = .ok (.getfield 31, 3) := by decide +kernel
theorem dX6_restore_20 : decode cX6_restore 20 = .ok (.ifCond .ne 22, 3) := by decide +kernel
theorem dX6_restore_23 : decode cX6_restore 23 = .ok (.aload_n 0, 1) := by decide +kernel
theorem dX6_restore_24 : decode cX6_restore 24 = .ok (.aload_n 0, 1) := by decide +kernel
theorem dX6_restore_25 : decode cX6_restore 25 = .ok (.getfield 19, 3) := by decide +kernel
theorem dX6_restore_28 : decode cX6_restore 28 = .ok (.iload_n 1, 1) := by decide +kernel
theorem dX6_restore_29 : decode cX6_restore 29 = .ok (.iaload, 1) := by decide +kernel
theorem dX6_restore_30 : decode cX6_restore 30 = .ok (.iconst 1, 1) := by decide +kernel
theorem dX6_restore_31 : decode cX6_restore 31 = .ok (.if_icmp .ne 7, 3) := by decide +kernel
theorem dX6_restore_34 : decode cX6_restore 34 = .ok (.iconst 0, 1) := by decide +kernel
theorem dX6_restore_35 : decode cX6_restore 35 = .ok (.goto 4, 3) := by decide +kernel
theorem dX6_restore_38 : decode cX6_restore 38 = .ok (.iconst 2, 1) := by decide +kernel
theorem dX6_restore_39 : decode cX6_restore 39 = .ok (.putfield 31, 3) := by decide +kernel
theorem dX6_restore_42 : decode cX6_restore 42 = .ok (.aload_n 0, 1) := by decide +kernel
theorem dX6_restore_43 : decode cX6_restore 43 = .ok (.getfield 31, 3) := by decide +kernel
theorem dX6_restore_46 : decode cX6_restore 46 = .ok (.ifCond .le 5, 3) := by decide +kernel
theorem dX6_restore_49 : decode cX6_restore 49 = .ok (.iconst 0, 1) := by decide +kernel
theorem dX6_restore_50 : decode cX6_restore 50 = .ok (.ireturn, 1) := by decide +kernel
theorem dX6_restore_51 : decode cX6_restore 51 = .ok (.aload_n 0, 1) := by decide +kernel
theorem dX6_restore_52 : decode cX6_restore 52 = .ok (.invokevirtual 87, 3) := by decide +kernel
theorem dX6_restore_55 : decode cX6_restore 55 = .ok (.iconst 0, 1) := by decide +kernel
theorem dX6_restore_56 : decode cX6_restore 56 = .ok (.istore_n 2, 1) := by decide +kernel
theorem dX6_restore_57 : decode cX6_restore 57 = .ok (.iload_n 2, 1) := by decide +kernel
theorem dX6_restore_58 : decode cX6_restore 58 = .ok (.bipush 89, 2) := by decide +kernel
theorem dX6_restore_60 : decode cX6_restore 60 = .ok (.if_icmp .ge 42, 3) := by decide +kernel
theorem dX6_restore_63 : decode cX6_restore 63 = .ok (.aload_n 0, 1) := by decide +kernel
theorem dX6_restore_64 : decode cX6_restore 64 = .ok (.getfield 7, 3) := by decide +kernel
theorem dX6_restore_67 : decode cX6_restore 67 = .ok (.iload_n 2, 1) := by decide +kernel
theorem dX6_restore_68 : decode cX6_restore 68 = .ok (.iload_n 2, 1) := by decide +kernel
theorem dX6_restore_69 : decode cX6_restore 69 = .ok (.invokestatic 202, 3) := by decide +kernel
theorem dX6_restore_72 : decode cX6_restore 72 = .ok (.ifCond .eq 17, 3) := by decide +kernel
theorem dX6_restore_75 : decode cX6_restore 75 = .ok (.aload_n 0, 1) := by decide +kernel
theorem dX6_restore_76 : decode cX6_restore 76 = .ok (.getfield 16, 3) := by decide +kernel
theorem dX6_restore_79 : decode cX6_restore 79 = .ok (.bipush 89, 2) := by decide +kernel
theorem dX6_restore_81 : decode cX6_restore 81 = .ok (.iload_n 1, 1) := by decide +kernel
theorem dX6_restore_82 : decode cX6_restore 82 = .ok (.imul, 1) := by decide +kernel
theorem dX6_restore_83 : decode cX6_restore 83 = .ok (.iload_n 2, 1) := by decide +kernel
theorem dX6_restore_84 : decode cX6_restore 84 = .ok (.iadd, 1) := by decide +kernel
theorem dX6_restore_85 : decode cX6_restore 85 = .ok (.iaload, 1) := by decide +kernel
theorem dX6_restore_86 : decode cX6_restore 86 = .ok (.goto 9, 3) := by decide +kernel
theorem dX6_restore_89 : decode cX6_restore 89 = .ok (.aload_n 0, 1) := by decide +kernel
theorem dX6_restore_90 : decode cX6_restore 90 = .ok (.getfield 7, 3) := by decide +kernel
theorem dX6_restore_93 : decode cX6_restore 93 = .ok (.iload_n 2, 1) := by decide +kernel
theorem dX6_restore_94 : decode cX6_restore 94 = .ok (.iaload, 1) := by decide +kernel
theorem dX6_restore_95 : decode cX6_restore 95 = .ok (.iastore, 1) := by decide +kernel
theorem dX6_restore_96 : decode cX6_restore 96 = .ok (.iinc 2 1, 3) := by decide +kernel
theorem dX6_restore_99 : decode cX6_restore 99 = .ok (.goto (-42), 3) := by decide +kernel
theorem dX6_restore_102 : decode cX6_restore 102 = .ok (.aload_n 0, 1) := by decide +kernel
theorem dX6_restore_103 : decode cX6_restore 103 = .ok (.invokevirtual 199, 3) := by decide +kernel
theorem dX6_restore_106 : decode cX6_restore 106 = .ok (.ireturn, 1) := by decide +kernel
theorem dX6_undo_0 : decode cX6_undo 0 = .ok (.aload_n 0, 1) := by decide +kernel
theorem dX6_undo_1 : decode cX6_undo 1 = .ok (.aload_n 0, 1) := by decide +kernel
theorem dX6_undo_2 : decode cX6_undo 2 = .ok (.getfield 35, 3) := by decide +kernel
theorem dX6_undo_5 : decode cX6_undo 5 = .ok (.ifCond .le 7, 3) := by decide +kernel
theorem dX6_undo_8 : decode cX6_undo 8 = .ok (.iconst 0, 1) := by decide +kernel
theorem dX6_undo_9 : decode cX6_undo 9 = .ok (.goto 4, 3) := by decide +kernel
theorem dX6_undo_12 : decode cX6_undo 12 = .ok (.iconst 1, 1) := by decide +kernel
theorem dX6_undo_13 : decode cX6_undo 13 = .ok (.putfield 31, 3) := by decide +kernel
theorem dX6_undo_16 : decode cX6_undo 16 = .ok (.aload_n 0, 1) := by decide +kernel
theorem dX6_undo_17 : decode cX6_undo 17 = .ok (.getfield 31, 3) := by decide +kernel
theorem dX6_undo_20 : decode cX6_undo 20 = .ok (.ifCond .le 5, 3) := by decide +kernel
theorem dX6_undo_23 : decode cX6_undo 23 = .ok (.iconst 0, 1) := by decide +kernel
theorem dX6_undo_24 : decode cX6_undo 24 = .ok (.ireturn, 1) := by decide +kernel
theorem dX6_undo_25 : decode cX6_undo 25 = .ok (.aload_n 0, 1) := by decide +kernel
theorem dX6_undo_26 : decode cX6_undo 26 = .ok (.dup, 1) := by decide +kernel
theorem dX6_undo_27 : decode cX6_undo 27 = .ok (.getfield 35, 3) := by decide +kernel
theorem dX6_undo_30 : decode cX6_undo 30 = .ok (.iconst 1, 1) := by decide +kernel
theorem dX6_undo_31 : decode cX6_undo 31 = .ok (.isub, 1) := by decide +kernel
theorem dX6_undo_32 : decode cX6_undo 32 = .ok (.putfield 35, 3) := by decide +kernel
theorem dX6_undo_35 : decode cX6_undo 35 = .ok (.iconst 0, 1) := by decide +kernel
theorem dX6_undo_36 : decode cX6_undo 36 = .ok (.istore_n 1, 1) := by decide +kernel
theorem dX6_undo_37 : decode cX6_undo 37 = .ok (.iload_n 1, 1) := by decide +kernel
theorem dX6_undo_38 : decode cX6_undo 38 = .ok (.bipush 89, 2) := by decide +kernel
theorem dX6_undo_40 : decode cX6_undo 40 = .ok (.if_icmp .ge 29, 3) := by decide +kernel
theorem dX6_undo_43 : decode cX6_undo 43 = .ok (.aload_n 0, 1) := by decide +kernel
theorem dX6_undo_44 : decode cX6_undo 44 = .ok (.getfield 7, 3) := by decide +kernel
theorem dX6_undo_47 : decode cX6_undo 47 = .ok (.iload_n 1, 1) := by decide +kernel
theorem dX6_undo_48 : decode cX6_undo 48 = .ok (.aload_n 0, 1) := by decide +kernel
theorem dX6_undo_49 : decode cX6_undo 49 = .ok (.getfield 13, 3) := by decide +kernel
theorem dX6_undo_52 : decode cX6_undo 52 = .ok (.bipush 89, 2) := by decide +kernel
theorem dX6_undo_54 : decode cX6_undo 54 = .ok (.aload_n 0, 1) := by decide +kernel
theorem dX6_undo_55 : decode cX6_undo 55 = .ok (.getfield 35, 3) := by decide +kernel
theorem dX6_undo_58 : decode cX6_undo 58 = .ok (.imul, 1) := by decide +kernel
theorem dX6_undo_59 : decode cX6_undo 59 = .ok (.iload_n 1, 1) := by decide +kernel
theorem dX6_undo_60 : decode cX6_undo 60 = .ok (.iadd, 1) := by decide +kernel
theorem dX6_undo_61 : decode cX6_undo 61 = .ok (.iaload, 1) := by decide +kernel
theorem dX6_undo_62 : decode cX6_undo 62 = .ok (.iastore, 1) := by decide +kernel
theorem dX6_undo_63 : decode cX6_undo 63 = .ok (.iinc 1 1, 3) := by decide +kernel
theorem dX6_undo_66 : decode cX6_undo 66 = .ok (.goto (-29), 3) := by decide +kernel
theorem dX6_undo_69 : decode cX6_undo 69 = .ok (.aload_n 0, 1) := by decide +kernel
theorem dX6_undo_70 : decode cX6_undo 70 = .ok (.getfield 35, 3) := by decide +kernel
theorem dX6_undo_73 : decode cX6_undo 73 = .ok (.ireturn, 1) := by decide +kernel
theorem dX6_isSeen_0 : decode cX6_isSeen 0 = .ok (.iload_n 0, 1) := by decide +kernel
theorem dX6_isSeen_1 : decode cX6_isSeen 1 = .ok (.invokestatic 42, 3) := by decide +kernel
theorem dX6_isSeen_4 : decode cX6_isSeen 4 = .ok (.ifCond .eq 17, 3) := by decide +kernel
theorem dX6_isSeen_7 : decode cX6_isSeen 7 = .ok (.iload_n 1, 1) := by decide +kernel
theorem dX6_isSeen_8 : decode cX6_isSeen 8 = .ok (.iconst 0, 1) := by decide +kernel
theorem dX6_isSeen_9 : decode cX6_isSeen 9 = .ok (.bipush 6, 2) := by decide +kernel
theorem dX6_isSeen_11 : decode cX6_isSeen 11 = .ok (.invokestatic 38, 3) := by decide +kernel
theorem dX6_isSeen_14 : decode cX6_isSeen 14 = .ok (.ifCond .eq 7, 3) := by decide +kernel
theorem dX6_isSeen_17 : decode cX6_isSeen 17 = .ok (.iconst 1, 1) := by decide +kernel
theorem dX6_isSeen_18 : decode cX6_isSeen 18 = .ok (.goto 4, 3) := by decide +kernel
theorem dX6_isSeen_21 : decode cX6_isSeen 21 = .ok (.iconst 0, 1) := by decide +kernel
theorem dX6_isSeen_22 : decode cX6_isSeen 22 = .ok (.ireturn, 1) := by decide +kernel
theorem dX6_field_0 : decode cX6_field 0 = .ok (.aload_n 0, 1) := by decide +kernel
theorem dX6_field_1 : decode cX6_field 1 = .ok (.iload_n 1, 1) := by decide +kernel
theorem dX6_field_2 : decode cX6_field 2 = .ok (.iload_n 2, 1) := by decide +kernel
theorem dX6_field_3 : decode cX6_field 3 = .ok (.invokestatic 205, 3) := by decide +kernel
theorem dX6_field_6 : decode cX6_field 6 = .ok (.ifCond .eq 7, 3) := by decide +kernel
theorem dX6_field_9 : decode cX6_field 9 = .ok (.iconst 0, 1) := by decide +kernel
theorem dX6_field_10 : decode cX6_field 10 = .ok (.goto 4, 3) := by decide +kernel
theorem dX6_field_13 : decode cX6_field 13 = .ok (.iconst 1, 1) := by decide +kernel
theorem dX6_field_14 : decode cX6_field 14 = .ok (.putfield 31, 3) := by decide +kernel
theorem dX6_field_17 : decode cX6_field 17 = .ok (.aload_n 0, 1) := by decide +kernel
theorem dX6_field_18 : decode cX6_field 18 = .ok (.getfield 31, 3) := by decide +kernel
theorem dX6_field_21 : decode cX6_field 21 = .ok (.ifCond .le 7, 3) := by decide +kernel
theorem dX6_field_24 : decode cX6_field 24 = .ok (.iconst 0, 1) := by decide +kernel
theorem dX6_field_25 : decode cX6_field 25 = .ok (.goto 14, 3) := by decide +kernel
theorem dX6_field_28 : decode cX6_field 28 = .ok (.aload_n 0, 1) := by decide +kernel
theorem dX6_field_29 : decode cX6_field 29 = .ok (.getfield 7, 3) := by decide +kernel
theorem dX6_field_32 : decode cX6_field 32 = .ok (.iload_n 1, 1) := by decide +kernel
theorem dX6_field_33 : decode cX6_field 33 = .ok (.invokestatic 109, 3) := by decide +kernel
theorem dX6_field_36 : decode cX6_field 36 = .ok (.iload_n 2, 1) := by decide +kernel
theorem dX6_field_37 : decode cX6_field 37 = .ok (.iadd, 1) := by decide +kernel
theorem dX6_field_38 : decode cX6_field 38 = .ok (.iaload, 1) := by decide +kernel
theorem dX6_field_39 : decode cX6_field 39 = .ok (.ireturn, 1) := by decide +kernel
theorem dX6_flow_0 : decode cX6_flow 0 = .ok (.aload_n 0, 1) := by decide +kernel
theorem dX6_flow_1 : decode cX6_flow 1 = .ok (.iload_n 1, 1) := by decide +kernel
theorem dX6_flow_2 : decode cX6_flow 2 = .ok (.iload_n 2, 1) := by decide +kernel
theorem dX6_flow_3 : decode cX6_flow 3 = .ok (.invokestatic 205, 3) := by decide +kernel
theorem dX6_flow_6 : decode cX6_flow 6 = .ok (.ifCond .eq 7, 3) := by decide +kernel
theorem dX6_flow_9 : decode cX6_flow 9 = .ok (.iconst 0, 1) := by decide +kernel
theorem dX6_flow_10 : decode cX6_flow 10 = .ok (.goto 4, 3) := by decide +kernel
theorem dX6_flow_13 : decode cX6_flow 13 = .ok (.iconst 1, 1) := by decide +kernel
theorem dX6_flow_14 : decode cX6_flow 14 = .ok (.putfield 31, 3) := by decide +kernel
theorem dX6_flow_17 : decode cX6_flow 17 = .ok (.aload_n 0, 1) := by decide +kernel
theorem dX6_flow_18 : decode cX6_flow 18 = .ok (.getfield 31, 3) := by decide +kernel
theorem dX6_flow_21 : decode cX6_flow 21 = .ok (.ifCond .le 7, 3) := by decide +kernel
theorem dX6_flow_24 : decode cX6_flow 24 = .ok (.iconst 0, 1) := by decide +kernel
theorem dX6_flow_25 : decode cX6_flow 25 = .ok (.goto 14, 3) := by decide +kernel
theorem dX6_flow_28 : decode cX6_flow 28 = .ok (.aload_n 0, 1) := by decide +kernel
theorem dX6_flow_29 : decode cX6_flow 29 = .ok (.getfield 7, 3) := by decide +kernel
theorem dX6_flow_32 : decode cX6_flow 32 = .ok (.iload_n 1, 1) := by decide +kernel
theorem dX6_flow_33 : decode cX6_flow 33 = .ok (.invokestatic 138, 3) := by decide +kernel
theorem dX6_flow_36 : decode cX6_flow 36 = .ok (.iload_n 2, 1) := by decide +kernel
theorem dX6_flow_37 : decode cX6_flow 37 = .ok (.iadd, 1) := by decide +kernel
theorem dX6_flow_38 : decode cX6_flow 38 = .ok (.iaload, 1) := by decide +kernel
theorem dX6_flow_39 : decode cX6_flow 39 = .ok (.ireturn, 1) := by decide +kernel
theorem dX6_valueAt_0 : decode cX6_valueAt 0 = .ok (.iconst 0, 1) := by decide +kernel
theorem dX6_valueAt_1 : decode cX6_valueAt 1 = .ok (.istore_n 3, 1) := by decide +kernel
theorem dX6_valueAt_2 : decode cX6_valueAt 2 = .ok (.bipush 6, 2) := by decide +kernel
theorem dX6_valueAt_4 : decode cX6_valueAt 4 = .ok (.istore 4, 2) := by decide +kernel
theorem dX6_valueAt_6 : decode cX6_valueAt 6 = .ok (.iload 4, 2) := by decide +kernel
theorem dX6_valueAt_8 : decode cX6_valueAt 8 = .ok (.ifCond .lt 27, 3) := by decide +kernel
theorem dX6_valueAt_11 : decode cX6_valueAt 11 = .ok (.iload_n 3, 1) := by decide +kernel
theorem dX6_valueAt_12 : decode cX6_valueAt 12 = .ok (.iload_n 2, 1) := by decide +kernel
theorem dX6_valueAt_13 : decode cX6_valueAt 13 = .ok (.imul, 1) := by decide +kernel
theorem dX6_valueAt_14 : decode cX6_valueAt 14 = .ok (.aload_n 0, 1) := by decide +kernel
theorem dX6_valueAt_15 : decode cX6_valueAt 15 = .ok (.getfield 7, 3) := by decide +kernel
theorem dX6_valueAt_18 : decode cX6_valueAt 18 = .ok (.iload_n 1, 1) := by decide +kernel
theorem dX6_valueAt_19 : decode cX6_valueAt 19 = .ok (.iload 4, 2) := by decide +kernel
theorem dX6_valueAt_21 : decode cX6_valueAt 21 = .ok (.iadd, 1) := by decide +kernel
theorem dX6_valueAt_22 : decode cX6_valueAt 22 = .ok (.iaload, 1) := by decide +kernel
theorem dX6_valueAt_23 : decode cX6_valueAt 23 = .ok (.iadd, 1) := by decide +kernel
theorem dX6_valueAt_24 : decode cX6_valueAt 24 = .ok (.sipush 10007, 3) := by decide +kernel
theorem dX6_valueAt_27 : decode cX6_valueAt 27 = .ok (.irem, 1) := by decide +kernel
theorem dX6_valueAt_28 : decode cX6_valueAt 28 = .ok (.istore_n 3, 1) := by decide +kernel
theorem dX6_valueAt_29 : decode cX6_valueAt 29 = .ok (.iinc 4 (-1), 3) := by decide +kernel
theorem dX6_valueAt_32 : decode cX6_valueAt 32 = .ok (.goto (-26), 3) := by decide +kernel
theorem dX6_valueAt_35 : decode cX6_valueAt 35 = .ok (.iload_n 3, 1) := by decide +kernel
theorem dX6_valueAt_36 : decode cX6_valueAt 36 = .ok (.ireturn, 1) := by decide +kernel
theorem dX6_value_0 : decode cX6_value 0 = .ok (.aload_n 0, 1) := by decide +kernel
theorem dX6_value_1 : decode cX6_value 1 = .ok (.iload_n 2, 1) := by decide +kernel
theorem dX6_value_2 : decode cX6_value 2 = .ok (.invokestatic 42, 3) := by decide +kernel
theorem dX6_value_5 : decode cX6_value 5 = .ok (.ifCond .ne 7, 3) := by decide +kernel
theorem dX6_value_8 : decode cX6_value 8 = .ok (.iconst 1, 1) := by decide +kernel
theorem dX6_value_9 : decode cX6_value 9 = .ok (.goto 17, 3) := by decide +kernel
theorem dX6_value_12 : decode cX6_value 12 = .ok (.iload_n 1, 1) := by decide +kernel
theorem dX6_value_13 : decode cX6_value 13 = .ok (.iconst 0, 1) := by decide +kernel
theorem dX6_value_14 : decode cX6_value 14 = .ok (.iconst 1, 1) := by decide +kernel
theorem dX6_value_15 : decode cX6_value 15 = .ok (.invokestatic 38, 3) := by decide +kernel
theorem dX6_value_18 : decode cX6_value 18 = .ok (.ifCond .eq 7, 3) := by decide +kernel
theorem dX6_value_21 : decode cX6_value 21 = .ok (.iconst 0, 1) := by decide +kernel
theorem dX6_value_22 : decode cX6_value 22 = .ok (.goto 4, 3) := by decide +kernel
theorem dX6_value_25 : decode cX6_value 25 = .ok (.iconst 2, 1) := by decide +kernel
theorem dX6_value_26 : decode cX6_value 26 = .ok (.putfield 31, 3) := by decide +kernel
theorem dX6_value_29 : decode cX6_value 29 = .ok (.aload_n 0, 1) := by decide +kernel
theorem dX6_value_30 : decode cX6_value 30 = .ok (.getfield 31, 3) := by decide +kernel
theorem dX6_value_33 : decode cX6_value 33 = .ok (.ifCond .le 7, 3) := by decide +kernel
theorem dX6_value_36 : decode cX6_value 36 = .ok (.iconst 0, 1) := by decide +kernel
theorem dX6_value_37 : decode cX6_value 37 = .ok (.goto 26, 3) := by decide +kernel
theorem dX6_value_40 : decode cX6_value 40 = .ok (.aload_n 0, 1) := by decide +kernel
theorem dX6_value_41 : decode cX6_value 41 = .ok (.iload_n 1, 1) := by decide +kernel
theorem dX6_value_42 : decode cX6_value 42 = .ok (.ifCond .ne 10, 3) := by decide +kernel
theorem dX6_value_45 : decode cX6_value 45 = .ok (.iload_n 2, 1) := by decide +kernel
theorem dX6_value_46 : decode cX6_value 46 = .ok (.invokestatic 109, 3) := by decide +kernel
theorem dX6_value_49 : decode cX6_value 49 = .ok (.goto 7, 3) := by decide +kernel
theorem dX6_value_52 : decode cX6_value 52 = .ok (.iload_n 2, 1) := by decide +kernel
theorem dX6_value_53 : decode cX6_value 53 = .ok (.invokestatic 138, 3) := by decide +kernel
theorem dX6_value_56 : decode cX6_value 56 = .ok (.iload_n 3, 1) := by decide +kernel
theorem dX6_value_57 : decode cX6_value 57 = .ok (.invokestatic 90, 3) := by decide +kernel
theorem dX6_value_60 : decode cX6_value 60 = .ok (.invokevirtual 208, 3) := by decide +kernel
theorem dX6_value_63 : decode cX6_value 63 = .ok (.ireturn, 1) := by decide +kernel
theorem dX6_clashNow_0 : decode cX6_clashNow 0 = .ok (.aload_n 0, 1) := by decide +kernel
theorem dX6_clashNow_1 : decode cX6_clashNow 1 = .ok (.iload_n 1, 1) := by decide +kernel
theorem dX6_clashNow_2 : decode cX6_clashNow 2 = .ok (.iload_n 2, 1) := by decide +kernel
theorem dX6_clashNow_3 : decode cX6_clashNow 3 = .ok (.invokevirtual 123, 3) := by decide +kernel
theorem dX6_clashNow_6 : decode cX6_clashNow 6 = .ok (.aload_n 0, 1) := by decide +kernel
theorem dX6_clashNow_7 : decode cX6_clashNow 7 = .ok (.iconst 2, 1) := by decide +kernel
theorem dX6_clashNow_8 : decode cX6_clashNow 8 = .ok (.invokevirtual 100, 3) := by decide +kernel
theorem dX6_clashNow_11 : decode cX6_clashNow 11 = .ok (.ireturn, 1) := by decide +kernel
theorem dX6_clash_0 : decode cX6_clash 0 = .ok (.aload_n 0, 1) := by decide +kernel
theorem dX6_clash_1 : decode cX6_clash 1 = .ok (.iload_n 1, 1) := by decide +kernel
theorem dX6_clash_2 : decode cX6_clash 2 = .ok (.iload_n 2, 1) := by decide +kernel
theorem dX6_clash_3 : decode cX6_clash 3 = .ok (.invokestatic 115, 3) := by decide +kernel
theorem dX6_clash_6 : decode cX6_clash 6 = .ok (.ifCond .eq 7, 3) := by decide +kernel
theorem dX6_clash_9 : decode cX6_clash 9 = .ok (.iconst 0, 1) := by decide +kernel
theorem dX6_clash_10 : decode cX6_clash 10 = .ok (.goto 4, 3) := by decide +kernel
theorem dX6_clash_13 : decode cX6_clash 13 = .ok (.iconst 1, 1) := by decide +kernel
theorem dX6_clash_14 : decode cX6_clash 14 = .ok (.putfield 31, 3) := by decide +kernel
theorem dX6_clash_17 : decode cX6_clash 17 = .ok (.aload_n 0, 1) := by decide +kernel
theorem dX6_clash_18 : decode cX6_clash 18 = .ok (.getfield 31, 3) := by decide +kernel
theorem dX6_clash_21 : decode cX6_clash 21 = .ok (.ifCond .le 7, 3) := by decide +kernel
theorem dX6_clash_24 : decode cX6_clash 24 = .ok (.iconst 0, 1) := by decide +kernel
theorem dX6_clash_25 : decode cX6_clash 25 = .ok (.goto 9, 3) := by decide +kernel
theorem dX6_clash_28 : decode cX6_clash 28 = .ok (.aload_n 0, 1) := by decide +kernel
theorem dX6_clash_29 : decode cX6_clash 29 = .ok (.iload_n 1, 1) := by decide +kernel
theorem dX6_clash_30 : decode cX6_clash 30 = .ok (.iload_n 2, 1) := by decide +kernel
theorem dX6_clash_31 : decode cX6_clash 31 = .ok (.invokevirtual 211, 3) := by decide +kernel
theorem dX6_clash_34 : decode cX6_clash 34 = .ok (.ireturn, 1) := by decide +kernel
theorem dX6_apartNow_0 : decode cX6_apartNow 0 = .ok (.aload_n 0, 1) := by decide +kernel
theorem dX6_apartNow_1 : decode cX6_apartNow 1 = .ok (.iload_n 2, 1) := by decide +kernel
theorem dX6_apartNow_2 : decode cX6_apartNow 2 = .ok (.iload_n 1, 1) := by decide +kernel
theorem dX6_apartNow_3 : decode cX6_apartNow 3 = .ok (.invokevirtual 156, 3) := by decide +kernel
theorem dX6_apartNow_6 : decode cX6_apartNow 6 = .ok (.aload_n 0, 1) := by decide +kernel
theorem dX6_apartNow_7 : decode cX6_apartNow 7 = .ok (.iconst 2, 1) := by decide +kernel
theorem dX6_apartNow_8 : decode cX6_apartNow 8 = .ok (.iconst 4, 1) := by decide +kernel
theorem dX6_apartNow_9 : decode cX6_apartNow 9 = .ok (.invokevirtual 64, 3) := by decide +kernel
theorem dX6_apartNow_12 : decode cX6_apartNow 12 = .ok (.aload_n 0, 1) := by decide +kernel
theorem dX6_apartNow_13 : decode cX6_apartNow 13 = .ok (.iload_n 1, 1) := by decide +kernel
theorem dX6_apartNow_14 : decode cX6_apartNow 14 = .ok (.iload_n 2, 1) := by decide +kernel
theorem dX6_apartNow_15 : decode cX6_apartNow 15 = .ok (.invokevirtual 156, 3) := by decide +kernel
theorem dX6_apartNow_18 : decode cX6_apartNow 18 = .ok (.aload_n 0, 1) := by decide +kernel
theorem dX6_apartNow_19 : decode cX6_apartNow 19 = .ok (.iconst 2, 1) := by decide +kernel
theorem dX6_apartNow_20 : decode cX6_apartNow 20 = .ok (.iconst 4, 1) := by decide +kernel
theorem dX6_apartNow_21 : decode cX6_apartNow 21 = .ok (.invokevirtual 214, 3) := by decide +kernel
theorem dX6_apartNow_24 : decode cX6_apartNow 24 = .ok (.ireturn, 1) := by decide +kernel
theorem dX6_apart_0 : decode cX6_apart 0 = .ok (.aload_n 0, 1) := by decide +kernel
theorem dX6_apart_1 : decode cX6_apart 1 = .ok (.iload_n 1, 1) := by decide +kernel
theorem dX6_apart_2 : decode cX6_apart 2 = .ok (.iload_n 2, 1) := by decide +kernel
theorem dX6_apart_3 : decode cX6_apart 3 = .ok (.invokestatic 115, 3) := by decide +kernel
theorem dX6_apart_6 : decode cX6_apart 6 = .ok (.ifCond .eq 7, 3) := by decide +kernel
theorem dX6_apart_9 : decode cX6_apart 9 = .ok (.iconst 0, 1) := by decide +kernel
theorem dX6_apart_10 : decode cX6_apart 10 = .ok (.goto 4, 3) := by decide +kernel
theorem dX6_apart_13 : decode cX6_apart 13 = .ok (.iconst 1, 1) := by decide +kernel
theorem dX6_apart_14 : decode cX6_apart 14 = .ok (.putfield 31, 3) := by decide +kernel
theorem dX6_apart_17 : decode cX6_apart 17 = .ok (.aload_n 0, 1) := by decide +kernel
theorem dX6_apart_18 : decode cX6_apart 18 = .ok (.getfield 31, 3) := by decide +kernel
theorem dX6_apart_21 : decode cX6_apart 21 = .ok (.ifCond .le 7, 3) := by decide +kernel
theorem dX6_apart_24 : decode cX6_apart 24 = .ok (.iconst 0, 1) := by decide +kernel
theorem dX6_apart_25 : decode cX6_apart 25 = .ok (.goto 9, 3) := by decide +kernel
theorem dX6_apart_28 : decode cX6_apart 28 = .ok (.aload_n 0, 1) := by decide +kernel
theorem dX6_apart_29 : decode cX6_apart 29 = .ok (.iload_n 1, 1) := by decide +kernel
theorem dX6_apart_30 : decode cX6_apart 30 = .ok (.iload_n 2, 1) := by decide +kernel
theorem dX6_apart_31 : decode cX6_apart 31 = .ok (.invokevirtual 217, 3) := by decide +kernel
theorem dX6_apart_34 : decode cX6_apart 34 = .ok (.ireturn, 1) := by decide +kernel
theorem dX6_differsNow_0 : decode cX6_differsNow 0 = .ok (.aload_n 0, 1) := by decide +kernel
theorem dX6_differsNow_1 : decode cX6_differsNow 1 = .ok (.iload_n 1, 1) := by decide +kernel
theorem dX6_differsNow_2 : decode cX6_differsNow 2 = .ok (.iload_n 2, 1) := by decide +kernel
theorem dX6_differsNow_3 : decode cX6_differsNow 3 = .ok (.iload_n 3, 1) := by decide +kernel
theorem dX6_differsNow_4 : decode cX6_differsNow 4 = .ok (.invokevirtual 135, 3) := by decide +kernel
theorem dX6_differsNow_7 : decode cX6_differsNow 7 = .ok (.aload_n 0, 1) := by decide +kernel
theorem dX6_differsNow_8 : decode cX6_differsNow 8 = .ok (.iconst 2, 1) := by decide +kernel
theorem dX6_differsNow_9 : decode cX6_differsNow 9 = .ok (.bipush 15, 2) := by decide +kernel
theorem dX6_differsNow_11 : decode cX6_differsNow 11 = .ok (.invokevirtual 64, 3) := by decide +kernel
theorem dX6_differsNow_14 : decode cX6_differsNow 14 = .ok (.aload_n 0, 1) := by decide +kernel
theorem dX6_differsNow_15 : decode cX6_differsNow 15 = .ok (.iconst 0, 1) := by decide +kernel
theorem dX6_differsNow_16 : decode cX6_differsNow 16 = .ok (.iconst 3, 1) := by decide +kernel
theorem dX6_differsNow_17 : decode cX6_differsNow 17 = .ok (.invokevirtual 81, 3) := by decide +kernel
theorem dX6_differsNow_20 : decode cX6_differsNow 20 = .ok (.aload_n 0, 1) := by decide +kernel
theorem dX6_differsNow_21 : decode cX6_differsNow 21 = .ok (.iconst 1, 1) := by decide +kernel
theorem dX6_differsNow_22 : decode cX6_differsNow 22 = .ok (.iconst 4, 1) := by decide +kernel
theorem dX6_differsNow_23 : decode cX6_differsNow 23 = .ok (.invokevirtual 81, 3) := by decide +kernel
theorem dX6_differsNow_26 : decode cX6_differsNow 26 = .ok (.aload_n 0, 1) := by decide +kernel
theorem dX6_differsNow_27 : decode cX6_differsNow 27 = .ok (.iconst 3, 1) := by decide +kernel
theorem dX6_differsNow_28 : decode cX6_differsNow 28 = .ok (.iconst 4, 1) := by decide +kernel
theorem dX6_differsNow_29 : decode cX6_differsNow 29 = .ok (.iconst 2, 1) := by decide +kernel
theorem dX6_differsNow_30 : decode cX6_differsNow 30 = .ok (.invokevirtual 71, 3) := by decide +kernel
theorem dX6_differsNow_33 : decode cX6_differsNow 33 = .ok (.aload_n 0, 1) := by decide +kernel
theorem dX6_differsNow_34 : decode cX6_differsNow 34 = .ok (.iconst 2, 1) := by decide +kernel
theorem dX6_differsNow_35 : decode cX6_differsNow 35 = .ok (.iconst 3, 1) := by decide +kernel
theorem dX6_differsNow_36 : decode cX6_differsNow 36 = .ok (.invokevirtual 147, 3) := by decide +kernel
theorem dX6_differsNow_39 : decode cX6_differsNow 39 = .ok (.aload_n 0, 1) := by decide +kernel
theorem dX6_differsNow_40 : decode cX6_differsNow 40 = .ok (.iconst 3, 1) := by decide +kernel
theorem dX6_differsNow_41 : decode cX6_differsNow 41 = .ok (.bipush 15, 2) := by decide +kernel
theorem dX6_differsNow_43 : decode cX6_differsNow 43 = .ok (.invokevirtual 214, 3) := by decide +kernel
theorem dX6_differsNow_46 : decode cX6_differsNow 46 = .ok (.ireturn, 1) := by decide +kernel
theorem dX6_differs_0 : decode cX6_differs 0 = .ok (.aload_n 0, 1) := by decide +kernel
theorem dX6_differs_1 : decode cX6_differs 1 = .ok (.iload_n 1, 1) := by decide +kernel
theorem dX6_differs_2 : decode cX6_differs 2 = .ok (.iload_n 2, 1) := by decide +kernel
theorem dX6_differs_3 : decode cX6_differs 3 = .ok (.invokestatic 115, 3) := by decide +kernel
theorem dX6_differs_6 : decode cX6_differs 6 = .ok (.ifCond .ne 7, 3) := by decide +kernel
theorem dX6_differs_9 : decode cX6_differs 9 = .ok (.iconst 1, 1) := by decide +kernel
theorem dX6_differs_10 : decode cX6_differs 10 = .ok (.goto 17, 3) := by decide +kernel
theorem dX6_differs_13 : decode cX6_differs 13 = .ok (.iload_n 3, 1) := by decide +kernel
theorem dX6_differs_14 : decode cX6_differs 14 = .ok (.iconst 2, 1) := by decide +kernel
theorem dX6_differs_15 : decode cX6_differs 15 = .ok (.iconst 5, 1) := by decide +kernel
theorem dX6_differs_16 : decode cX6_differs 16 = .ok (.invokestatic 38, 3) := by decide +kernel
theorem dX6_differs_19 : decode cX6_differs 19 = .ok (.ifCond .eq 7, 3) := by decide +kernel
theorem dX6_differs_22 : decode cX6_differs 22 = .ok (.iconst 0, 1) := by decide +kernel
theorem dX6_differs_23 : decode cX6_differs 23 = .ok (.goto 4, 3) := by decide +kernel
theorem dX6_differs_26 : decode cX6_differs 26 = .ok (.iconst 2, 1) := by decide +kernel
theorem dX6_differs_27 : decode cX6_differs 27 = .ok (.putfield 31, 3) := by decide +kernel
theorem dX6_differs_30 : decode cX6_differs 30 = .ok (.aload_n 0, 1) := by decide +kernel
theorem dX6_differs_31 : decode cX6_differs 31 = .ok (.getfield 31, 3) := by decide +kernel
theorem dX6_differs_34 : decode cX6_differs 34 = .ok (.ifCond .le 7, 3) := by decide +kernel
theorem dX6_differs_37 : decode cX6_differs 37 = .ok (.iconst 0, 1) := by decide +kernel
theorem dX6_differs_38 : decode cX6_differs 38 = .ok (.goto 10, 3) := by decide +kernel
theorem dX6_differs_41 : decode cX6_differs 41 = .ok (.aload_n 0, 1) := by decide +kernel
theorem dX6_differs_42 : decode cX6_differs 42 = .ok (.iload_n 1, 1) := by decide +kernel
theorem dX6_differs_43 : decode cX6_differs 43 = .ok (.iload_n 2, 1) := by decide +kernel
theorem dX6_differs_44 : decode cX6_differs 44 = .ok (.iload_n 3, 1) := by decide +kernel
theorem dX6_differs_45 : decode cX6_differs 45 = .ok (.invokevirtual 220, 3) := by decide +kernel
theorem dX6_differs_48 : decode cX6_differs 48 = .ok (.ireturn, 1) := by decide +kernel
theorem dX6_lacks_0 : decode cX6_lacks 0 = .ok (.aload_n 0, 1) := by decide +kernel
theorem dX6_lacks_1 : decode cX6_lacks 1 = .ok (.iload_n 1, 1) := by decide +kernel
theorem dX6_lacks_2 : decode cX6_lacks 2 = .ok (.invokestatic 174, 3) := by decide +kernel
theorem dX6_lacks_5 : decode cX6_lacks 5 = .ok (.ifCond .le 7, 3) := by decide +kernel
theorem dX6_lacks_8 : decode cX6_lacks 8 = .ok (.iconst 0, 1) := by decide +kernel
theorem dX6_lacks_9 : decode cX6_lacks 9 = .ok (.goto 4, 3) := by decide +kernel
theorem dX6_lacks_12 : decode cX6_lacks 12 = .ok (.iconst 1, 1) := by decide +kernel
theorem dX6_lacks_13 : decode cX6_lacks 13 = .ok (.putfield 31, 3) := by decide +kernel
theorem dX6_lacks_16 : decode cX6_lacks 16 = .ok (.aload_n 0, 1) := by decide +kernel
theorem dX6_lacks_17 : decode cX6_lacks 17 = .ok (.getfield 31, 3) := by decide +kernel
theorem dX6_lacks_20 : decode cX6_lacks 20 = .ok (.ifCond .gt 14, 3) := by decide +kernel
theorem dX6_lacks_23 : decode cX6_lacks 23 = .ok (.aload_n 0, 1) := by decide +kernel
theorem dX6_lacks_24 : decode cX6_lacks 24 = .ok (.iload_n 1, 1) := by decide +kernel
theorem dX6_lacks_25 : decode cX6_lacks 25 = .ok (.invokestatic 187, 3) := by decide +kernel
theorem dX6_lacks_28 : decode cX6_lacks 28 = .ok (.invokevirtual 106, 3) := by decide +kernel
theorem dX6_lacks_31 : decode cX6_lacks 31 = .ok (.ifCond .eq 7, 3) := by decide +kernel
theorem dX6_lacks_34 : decode cX6_lacks 34 = .ok (.iconst 0, 1) := by decide +kernel
theorem dX6_lacks_35 : decode cX6_lacks 35 = .ok (.goto 21, 3) := by decide +kernel
theorem dX6_lacks_38 : decode cX6_lacks 38 = .ok (.aload_n 0, 1) := by decide +kernel
theorem dX6_lacks_39 : decode cX6_lacks 39 = .ok (.getfield 7, 3) := by decide +kernel
theorem dX6_lacks_42 : decode cX6_lacks 42 = .ok (.iconst 0, 1) := by decide +kernel
theorem dX6_lacks_43 : decode cX6_lacks 43 = .ok (.iaload, 1) := by decide +kernel
theorem dX6_lacks_44 : decode cX6_lacks 44 = .ok (.iload_n 1, 1) := by decide +kernel
theorem dX6_lacks_45 : decode cX6_lacks 45 = .ok (.invokestatic 187, 3) := by decide +kernel
theorem dX6_lacks_48 : decode cX6_lacks 48 = .ok (.imul, 1) := by decide +kernel
theorem dX6_lacks_49 : decode cX6_lacks 49 = .ok (.aload_n 0, 1) := by decide +kernel
theorem dX6_lacks_50 : decode cX6_lacks 50 = .ok (.getfield 7, 3) := by decide +kernel
theorem dX6_lacks_53 : decode cX6_lacks 53 = .ok (.iconst 1, 1) := by decide +kernel
theorem dX6_lacks_54 : decode cX6_lacks 54 = .ok (.iaload, 1) := by decide +kernel
theorem dX6_lacks_55 : decode cX6_lacks 55 = .ok (.isub, 1) := by decide +kernel
theorem dX6_lacks_56 : decode cX6_lacks 56 = .ok (.ireturn, 1) := by decide +kernel
theorem dX6_counted_0 : decode cX6_counted 0 = .ok (.iload_n 1, 1) := by decide +kernel
theorem dX6_counted_1 : decode cX6_counted 1 = .ok (.tableswitch 87 0 7 #[47, 47, 54, 59, 64, 64, 64, 73], 47) := by decide +kernel
theorem dX6_counted_48 : decode cX6_counted 48 = .ok (.aload_n 0, 1) := by decide +kernel
theorem dX6_counted_49 : decode cX6_counted 49 = .ok (.getfield 7, 3) := by decide +kernel
theorem dX6_counted_52 : decode cX6_counted 52 = .ok (.iload_n 1, 1) := by decide +kernel
theorem dX6_counted_53 : decode cX6_counted 53 = .ok (.iaload, 1) := by decide +kernel
theorem dX6_counted_54 : decode cX6_counted 54 = .ok (.ireturn, 1) := by decide +kernel
theorem dX6_counted_55 : decode cX6_counted 55 = .ok (.aload_n 0, 1) := by decide +kernel
theorem dX6_counted_56 : decode cX6_counted 56 = .ok (.invokevirtual 199, 3) := by decide +kernel
theorem dX6_counted_59 : decode cX6_counted 59 = .ok (.ireturn, 1) := by decide +kernel
theorem dX6_counted_60 : decode cX6_counted 60 = .ok (.aload_n 0, 1) := by decide +kernel
theorem dX6_counted_61 : decode cX6_counted 61 = .ok (.invokevirtual 224, 3) := by decide +kernel
theorem dX6_counted_64 : decode cX6_counted 64 = .ok (.ireturn, 1) := by decide +kernel
theorem dX6_counted_65 : decode cX6_counted 65 = .ok (.aload_n 0, 1) := by decide +kernel
theorem dX6_counted_66 : decode cX6_counted 66 = .ok (.getfield 7, 3) := by decide +kernel
theorem dX6_counted_69 : decode cX6_counted 69 = .ok (.iload_n 1, 1) := by decide +kernel
theorem dX6_counted_70 : decode cX6_counted 70 = .ok (.iconst 2, 1) := by decide +kernel
theorem dX6_counted_71 : decode cX6_counted 71 = .ok (.isub, 1) := by decide +kernel
theorem dX6_counted_72 : decode cX6_counted 72 = .ok (.iaload, 1) := by decide +kernel
theorem dX6_counted_73 : decode cX6_counted 73 = .ok (.ireturn, 1) := by decide +kernel
theorem dX6_counted_74 : decode cX6_counted 74 = .ok (.aload_n 0, 1) := by decide +kernel
theorem dX6_counted_75 : decode cX6_counted 75 = .ok (.getfield 19, 3) := by decide +kernel
theorem dX6_counted_78 : decode cX6_counted 78 = .ok (.iconst 0, 1) := by decide +kernel
theorem dX6_counted_79 : decode cX6_counted 79 = .ok (.iaload, 1) := by decide +kernel
theorem dX6_counted_80 : decode cX6_counted 80 = .ok (.aload_n 0, 1) := by decide +kernel
theorem dX6_counted_81 : decode cX6_counted 81 = .ok (.getfield 19, 3) := by decide +kernel
theorem dX6_counted_84 : decode cX6_counted 84 = .ok (.iconst 1, 1) := by decide +kernel
theorem dX6_counted_85 : decode cX6_counted 85 = .ok (.iaload, 1) := by decide +kernel
theorem dX6_counted_86 : decode cX6_counted 86 = .ok (.iadd, 1) := by decide +kernel
theorem dX6_counted_87 : decode cX6_counted 87 = .ok (.ireturn, 1) := by decide +kernel
theorem dX6_counted_88 : decode cX6_counted 88 = .ok (.aload_n 0, 1) := by decide +kernel
theorem dX6_counted_89 : decode cX6_counted 89 = .ok (.getfield 35, 3) := by decide +kernel
theorem dX6_counted_92 : decode cX6_counted 92 = .ok (.ireturn, 1) := by decide +kernel
theorem dX6_count_0 : decode cX6_count 0 = .ok (.aload_n 0, 1) := by decide +kernel
theorem dX6_count_1 : decode cX6_count 1 = .ok (.iload_n 1, 1) := by decide +kernel
theorem dX6_count_2 : decode cX6_count 2 = .ok (.iconst 0, 1) := by decide +kernel
theorem dX6_count_3 : decode cX6_count 3 = .ok (.bipush 8, 2) := by decide +kernel
theorem dX6_count_5 : decode cX6_count 5 = .ok (.invokestatic 38, 3) := by decide +kernel
theorem dX6_count_8 : decode cX6_count 8 = .ok (.ifCond .eq 7, 3) := by decide +kernel
theorem dX6_count_11 : decode cX6_count 11 = .ok (.iconst 0, 1) := by decide +kernel
theorem dX6_count_12 : decode cX6_count 12 = .ok (.goto 4, 3) := by decide +kernel
theorem dX6_count_15 : decode cX6_count 15 = .ok (.iconst 1, 1) := by decide +kernel
theorem dX6_count_16 : decode cX6_count 16 = .ok (.putfield 31, 3) := by decide +kernel
theorem dX6_count_19 : decode cX6_count 19 = .ok (.aload_n 0, 1) := by decide +kernel
theorem dX6_count_20 : decode cX6_count 20 = .ok (.getfield 31, 3) := by decide +kernel
theorem dX6_count_23 : decode cX6_count 23 = .ok (.ifCond .le 7, 3) := by decide +kernel
theorem dX6_count_26 : decode cX6_count 26 = .ok (.iconst 0, 1) := by decide +kernel
theorem dX6_count_27 : decode cX6_count 27 = .ok (.goto 8, 3) := by decide +kernel
theorem dX6_count_30 : decode cX6_count 30 = .ok (.aload_n 0, 1) := by decide +kernel
theorem dX6_count_31 : decode cX6_count 31 = .ok (.iload_n 1, 1) := by decide +kernel
theorem dX6_count_32 : decode cX6_count 32 = .ok (.invokevirtual 227, 3) := by decide +kernel
theorem dX6_count_35 : decode cX6_count 35 = .ok (.ireturn, 1) := by decide +kernel
theorem dX6_dense_0 : decode cX6_dense 0 = .ok (.iconst 0, 1) := by decide +kernel
theorem dX6_dense_1 : decode cX6_dense 1 = .ok (.istore_n 1, 1) := by decide +kernel
theorem dX6_dense_2 : decode cX6_dense 2 = .ok (.iconst 0, 1) := by decide +kernel
theorem dX6_dense_3 : decode cX6_dense 3 = .ok (.istore_n 2, 1) := by decide +kernel
theorem dX6_dense_4 : decode cX6_dense 4 = .ok (.iload_n 2, 1) := by decide +kernel
theorem dX6_dense_5 : decode cX6_dense 5 = .ok (.bipush 42, 2) := by decide +kernel
theorem dX6_dense_7 : decode cX6_dense 7 = .ok (.if_icmp .ge 28, 3) := by decide +kernel
theorem dX6_dense_10 : decode cX6_dense 10 = .ok (.iload_n 1, 1) := by decide +kernel
theorem dX6_dense_11 : decode cX6_dense 11 = .ok (.aload_n 0, 1) := by decide +kernel
theorem dX6_dense_12 : decode cX6_dense 12 = .ok (.getfield 7, 3) := by decide +kernel
theorem dX6_dense_15 : decode cX6_dense 15 = .ok (.iconst 5, 1) := by decide +kernel
theorem dX6_dense_16 : decode cX6_dense 16 = .ok (.iload_n 2, 1) := by decide +kernel
theorem dX6_dense_17 : decode cX6_dense 17 = .ok (.iadd, 1) := by decide +kernel
theorem dX6_dense_18 : decode cX6_dense 18 = .ok (.iaload, 1) := by decide +kernel
theorem dX6_dense_19 : decode cX6_dense 19 = .ok (.ifCond .ne 7, 3) := by decide +kernel
theorem dX6_dense_22 : decode cX6_dense 22 = .ok (.iconst 0, 1) := by decide +kernel
theorem dX6_dense_23 : decode cX6_dense 23 = .ok (.goto 4, 3) := by decide +kernel
theorem dX6_dense_26 : decode cX6_dense 26 = .ok (.iconst 1, 1) := by decide +kernel
theorem dX6_dense_27 : decode cX6_dense 27 = .ok (.iadd, 1) := by decide +kernel
theorem dX6_dense_28 : decode cX6_dense 28 = .ok (.istore_n 1, 1) := by decide +kernel
theorem dX6_dense_29 : decode cX6_dense 29 = .ok (.iinc 2 1, 3) := by decide +kernel
theorem dX6_dense_32 : decode cX6_dense 32 = .ok (.goto (-28), 3) := by decide +kernel
theorem dX6_dense_35 : decode cX6_dense 35 = .ok (.iload_n 1, 1) := by decide +kernel
theorem dX6_dense_36 : decode cX6_dense 36 = .ok (.i2d, 1) := by decide +kernel
theorem dX6_dense_37 : decode cX6_dense 37 = .ok (.bipush 6, 2) := by decide +kernel
theorem dX6_dense_39 : decode cX6_dense 39 = .ok (.aload_n 0, 1) := by decide +kernel
theorem dX6_dense_40 : decode cX6_dense 40 = .ok (.getfield 7, 3) := by decide +kernel
theorem dX6_dense_43 : decode cX6_dense 43 = .ok (.iconst 0, 1) := by decide +kernel
theorem dX6_dense_44 : decode cX6_dense 44 = .ok (.iaload, 1) := by decide +kernel
theorem dX6_dense_45 : decode cX6_dense 45 = .ok (.iconst 1, 1) := by decide +kernel
theorem dX6_dense_46 : decode cX6_dense 46 = .ok (.isub, 1) := by decide +kernel
theorem dX6_dense_47 : decode cX6_dense 47 = .ok (.imul, 1) := by decide +kernel
theorem dX6_dense_48 : decode cX6_dense 48 = .ok (.i2d, 1) := by decide +kernel
theorem dX6_dense_49 : decode cX6_dense 49 = .ok (.ddiv, 1) := by decide +kernel
theorem dX6_dense_50 : decode cX6_dense 50 = .ok (.dreturn, 1) := by decide +kernel
theorem dX6_density_0 : decode cX6_density 0 = .ok (.aload_n 0, 1) := by decide +kernel
theorem dX6_density_1 : decode cX6_density 1 = .ok (.iconst 0, 1) := by decide +kernel
theorem dX6_density_2 : decode cX6_density 2 = .ok (.putfield 31, 3) := by decide +kernel
theorem dX6_density_5 : decode cX6_density 5 = .ok (.aload_n 0, 1) := by decide +kernel
theorem dX6_density_6 : decode cX6_density 6 = .ok (.invokevirtual 230, 3) := by decide +kernel
theorem dX6_density_9 : decode cX6_density 9 = .ok (.dreturn, 1) := by decide +kernel
theorem dX6_mix_0 : decode cX6_mix 0 = .ok (.aload_n 0, 1) := by decide +kernel
theorem dX6_mix_1 : decode cX6_mix 1 = .ok (.ldc2_w 234, 3) := by decide +kernel
theorem dX6_mix_4 : decode cX6_mix 4 = .ok (.aload_n 0, 1) := by decide +kernel
theorem dX6_mix_5 : decode cX6_mix 5 = .ok (.getfield 236, 3) := by decide +kernel
theorem dX6_mix_8 : decode cX6_mix 8 = .ok (.lmul, 1) := by decide +kernel
theorem dX6_mix_9 : decode cX6_mix 9 = .ok (.lload_n 1, 1) := by decide +kernel
theorem dX6_mix_10 : decode cX6_mix 10 = .ok (.ladd, 1) := by decide +kernel
theorem dX6_mix_11 : decode cX6_mix 11 = .ok (.putfield 236, 3) := by decide +kernel
theorem dX6_mix_14 : decode cX6_mix 14 = .ok (.return_, 1) := by decide +kernel
theorem dX6_mixSlot_0 : decode cX6_mixSlot 0 = .ok (.iconst 2, 1) := by decide +kernel
theorem dX6_mixSlot_1 : decode cX6_mixSlot 1 = .ok (.istore_n 2, 1) := by decide +kernel
theorem dX6_mixSlot_2 : decode cX6_mixSlot 2 = .ok (.iload_n 2, 1) := by decide +kernel
theorem dX6_mixSlot_3 : decode cX6_mixSlot 3 = .ok (.bipush 7, 2) := by decide +kernel
theorem dX6_mixSlot_5 : decode cX6_mixSlot 5 = .ok (.if_icmp .ge 25, 3) := by decide +kernel
theorem dX6_mixSlot_8 : decode cX6_mixSlot 8 = .ok (.aload_n 0, 1) := by decide +kernel
theorem dX6_mixSlot_9 : decode cX6_mixSlot 9 = .ok (.aload_n 0, 1) := by decide +kernel
theorem dX6_mixSlot_10 : decode cX6_mixSlot 10 = .ok (.getfield 7, 3) := by decide +kernel
theorem dX6_mixSlot_13 : decode cX6_mixSlot 13 = .ok (.iload_n 1, 1) := by decide +kernel
theorem dX6_mixSlot_14 : decode cX6_mixSlot 14 = .ok (.invokestatic 109, 3) := by decide +kernel
theorem dX6_mixSlot_17 : decode cX6_mixSlot 17 = .ok (.iload_n 2, 1) := by decide +kernel
theorem dX6_mixSlot_18 : decode cX6_mixSlot 18 = .ok (.iadd, 1) := by decide +kernel
theorem dX6_mixSlot_19 : decode cX6_mixSlot 19 = .ok (.iaload, 1) := by decide +kernel
theorem dX6_mixSlot_20 : decode cX6_mixSlot 20 = .ok (.i2l, 1) := by decide +kernel
theorem dX6_mixSlot_21 : decode cX6_mixSlot 21 = .ok (.invokevirtual 240, 3) := by decide +kernel
theorem dX6_mixSlot_24 : decode cX6_mixSlot 24 = .ok (.iinc 2 1, 3) := by decide +kernel
theorem dX6_mixSlot_27 : decode cX6_mixSlot 27 = .ok (.goto (-25), 3) := by decide +kernel
theorem dX6_mixSlot_30 : decode cX6_mixSlot 30 = .ok (.iconst 2, 1) := by decide +kernel
theorem dX6_mixSlot_31 : decode cX6_mixSlot 31 = .ok (.istore_n 2, 1) := by decide +kernel
theorem dX6_mixSlot_32 : decode cX6_mixSlot 32 = .ok (.iload_n 2, 1) := by decide +kernel
theorem dX6_mixSlot_33 : decode cX6_mixSlot 33 = .ok (.bipush 7, 2) := by decide +kernel
theorem dX6_mixSlot_35 : decode cX6_mixSlot 35 = .ok (.if_icmp .ge 25, 3) := by decide +kernel
theorem dX6_mixSlot_38 : decode cX6_mixSlot 38 = .ok (.aload_n 0, 1) := by decide +kernel
theorem dX6_mixSlot_39 : decode cX6_mixSlot 39 = .ok (.aload_n 0, 1) := by decide +kernel
theorem dX6_mixSlot_40 : decode cX6_mixSlot 40 = .ok (.getfield 7, 3) := by decide +kernel
theorem dX6_mixSlot_43 : decode cX6_mixSlot 43 = .ok (.iload_n 1, 1) := by decide +kernel
theorem dX6_mixSlot_44 : decode cX6_mixSlot 44 = .ok (.invokestatic 138, 3) := by decide +kernel
theorem dX6_mixSlot_47 : decode cX6_mixSlot 47 = .ok (.iload_n 2, 1) := by decide +kernel
theorem dX6_mixSlot_48 : decode cX6_mixSlot 48 = .ok (.iadd, 1) := by decide +kernel
theorem dX6_mixSlot_49 : decode cX6_mixSlot 49 = .ok (.iaload, 1) := by decide +kernel
theorem dX6_mixSlot_50 : decode cX6_mixSlot 50 = .ok (.i2l, 1) := by decide +kernel
theorem dX6_mixSlot_51 : decode cX6_mixSlot 51 = .ok (.invokevirtual 240, 3) := by decide +kernel
theorem dX6_mixSlot_54 : decode cX6_mixSlot 54 = .ok (.iinc 2 1, 3) := by decide +kernel
theorem dX6_mixSlot_57 : decode cX6_mixSlot 57 = .ok (.goto (-25), 3) := by decide +kernel
theorem dX6_mixSlot_60 : decode cX6_mixSlot 60 = .ok (.aload_n 0, 1) := by decide +kernel
theorem dX6_mixSlot_61 : decode cX6_mixSlot 61 = .ok (.aload_n 0, 1) := by decide +kernel
theorem dX6_mixSlot_62 : decode cX6_mixSlot 62 = .ok (.iload_n 1, 1) := by decide +kernel
theorem dX6_mixSlot_63 : decode cX6_mixSlot 63 = .ok (.invokestatic 109, 3) := by decide +kernel
theorem dX6_mixSlot_66 : decode cX6_mixSlot 66 = .ok (.iconst 3, 1) := by decide +kernel
theorem dX6_mixSlot_67 : decode cX6_mixSlot 67 = .ok (.invokevirtual 208, 3) := by decide +kernel
theorem dX6_mixSlot_70 : decode cX6_mixSlot 70 = .ok (.i2l, 1) := by decide +kernel
theorem dX6_mixSlot_71 : decode cX6_mixSlot 71 = .ok (.invokevirtual 240, 3) := by decide +kernel
theorem dX6_mixSlot_74 : decode cX6_mixSlot 74 = .ok (.aload_n 0, 1) := by decide +kernel
theorem dX6_mixSlot_75 : decode cX6_mixSlot 75 = .ok (.aload_n 0, 1) := by decide +kernel
theorem dX6_mixSlot_76 : decode cX6_mixSlot 76 = .ok (.iload_n 1, 1) := by decide +kernel
theorem dX6_mixSlot_77 : decode cX6_mixSlot 77 = .ok (.invokestatic 138, 3) := by decide +kernel
theorem dX6_mixSlot_80 : decode cX6_mixSlot 80 = .ok (.iconst 3, 1) := by decide +kernel
theorem dX6_mixSlot_81 : decode cX6_mixSlot 81 = .ok (.invokevirtual 208, 3) := by decide +kernel
theorem dX6_mixSlot_84 : decode cX6_mixSlot 84 = .ok (.i2l, 1) := by decide +kernel
theorem dX6_mixSlot_85 : decode cX6_mixSlot 85 = .ok (.invokevirtual 240, 3) := by decide +kernel
theorem dX6_mixSlot_88 : decode cX6_mixSlot 88 = .ok (.aload_n 0, 1) := by decide +kernel
theorem dX6_mixSlot_89 : decode cX6_mixSlot 89 = .ok (.aload_n 0, 1) := by decide +kernel
theorem dX6_mixSlot_90 : decode cX6_mixSlot 90 = .ok (.iload_n 1, 1) := by decide +kernel
theorem dX6_mixSlot_91 : decode cX6_mixSlot 91 = .ok (.iconst 0, 1) := by decide +kernel
theorem dX6_mixSlot_92 : decode cX6_mixSlot 92 = .ok (.invokevirtual 211, 3) := by decide +kernel
theorem dX6_mixSlot_95 : decode cX6_mixSlot 95 = .ok (.i2l, 1) := by decide +kernel
theorem dX6_mixSlot_96 : decode cX6_mixSlot 96 = .ok (.invokevirtual 240, 3) := by decide +kernel
theorem dX6_mixSlot_99 : decode cX6_mixSlot 99 = .ok (.aload_n 0, 1) := by decide +kernel
theorem dX6_mixSlot_100 : decode cX6_mixSlot 100 = .ok (.aload_n 0, 1) := by decide +kernel
theorem dX6_mixSlot_101 : decode cX6_mixSlot 101 = .ok (.iload_n 1, 1) := by decide +kernel
theorem dX6_mixSlot_102 : decode cX6_mixSlot 102 = .ok (.iconst 0, 1) := by decide +kernel
theorem dX6_mixSlot_103 : decode cX6_mixSlot 103 = .ok (.invokevirtual 217, 3) := by decide +kernel
theorem dX6_mixSlot_106 : decode cX6_mixSlot 106 = .ok (.i2l, 1) := by decide +kernel
theorem dX6_mixSlot_107 : decode cX6_mixSlot 107 = .ok (.invokevirtual 240, 3) := by decide +kernel
theorem dX6_mixSlot_110 : decode cX6_mixSlot 110 = .ok (.iconst 2, 1) := by decide +kernel
theorem dX6_mixSlot_111 : decode cX6_mixSlot 111 = .ok (.istore_n 2, 1) := by decide +kernel
theorem dX6_mixSlot_112 : decode cX6_mixSlot 112 = .ok (.iload_n 2, 1) := by decide +kernel
theorem dX6_mixSlot_113 : decode cX6_mixSlot 113 = .ok (.bipush 6, 2) := by decide +kernel
theorem dX6_mixSlot_115 : decode cX6_mixSlot 115 = .ok (.if_icmp .ge 21, 3) := by decide +kernel
theorem dX6_mixSlot_118 : decode cX6_mixSlot 118 = .ok (.aload_n 0, 1) := by decide +kernel
theorem dX6_mixSlot_119 : decode cX6_mixSlot 119 = .ok (.aload_n 0, 1) := by decide +kernel
theorem dX6_mixSlot_120 : decode cX6_mixSlot 120 = .ok (.iconst 0, 1) := by decide +kernel
theorem dX6_mixSlot_121 : decode cX6_mixSlot 121 = .ok (.iload_n 1, 1) := by decide +kernel
theorem dX6_mixSlot_122 : decode cX6_mixSlot 122 = .ok (.iload_n 2, 1) := by decide +kernel
theorem dX6_mixSlot_123 : decode cX6_mixSlot 123 = .ok (.invokevirtual 220, 3) := by decide +kernel
theorem dX6_mixSlot_126 : decode cX6_mixSlot 126 = .ok (.i2l, 1) := by decide +kernel
theorem dX6_mixSlot_127 : decode cX6_mixSlot 127 = .ok (.invokevirtual 240, 3) := by decide +kernel
theorem dX6_mixSlot_130 : decode cX6_mixSlot 130 = .ok (.iinc 2 1, 3) := by decide +kernel
theorem dX6_mixSlot_133 : decode cX6_mixSlot 133 = .ok (.goto (-21), 3) := by decide +kernel
theorem dX6_mixSlot_136 : decode cX6_mixSlot 136 = .ok (.return_, 1) := by decide +kernel
theorem dX6_digest_0 : decode cX6_digest 0 = .ok (.aload_n 0, 1) := by decide +kernel
theorem dX6_digest_1 : decode cX6_digest 1 = .ok (.iconst 0, 1) := by decide +kernel
theorem dX6_digest_2 : decode cX6_digest 2 = .ok (.putfield 31, 3) := by decide +kernel
theorem dX6_digest_5 : decode cX6_digest 5 = .ok (.aload_n 0, 1) := by decide +kernel
theorem dX6_digest_6 : decode cX6_digest 6 = .ok (.ldc2_w 244, 3) := by decide +kernel
theorem dX6_digest_9 : decode cX6_digest 9 = .ok (.putfield 236, 3) := by decide +kernel
theorem dX6_digest_12 : decode cX6_digest 12 = .ok (.iconst 0, 1) := by decide +kernel
theorem dX6_digest_13 : decode cX6_digest 13 = .ok (.istore_n 1, 1) := by decide +kernel
theorem dX6_digest_14 : decode cX6_digest 14 = .ok (.iload_n 1, 1) := by decide +kernel
theorem dX6_digest_15 : decode cX6_digest 15 = .ok (.bipush 9, 2) := by decide +kernel
theorem dX6_digest_17 : decode cX6_digest 17 = .ok (.if_icmp .ge 19, 3) := by decide +kernel
theorem dX6_digest_20 : decode cX6_digest 20 = .ok (.aload_n 0, 1) := by decide +kernel
theorem dX6_digest_21 : decode cX6_digest 21 = .ok (.aload_n 0, 1) := by decide +kernel
theorem dX6_digest_22 : decode cX6_digest 22 = .ok (.iload_n 1, 1) := by decide +kernel
theorem dX6_digest_23 : decode cX6_digest 23 = .ok (.invokevirtual 227, 3) := by decide +kernel
theorem dX6_digest_26 : decode cX6_digest 26 = .ok (.i2l, 1) := by decide +kernel
theorem dX6_digest_27 : decode cX6_digest 27 = .ok (.invokevirtual 240, 3) := by decide +kernel
theorem dX6_digest_30 : decode cX6_digest 30 = .ok (.iinc 1 1, 3) := by decide +kernel
theorem dX6_digest_33 : decode cX6_digest 33 = .ok (.goto (-19), 3) := by decide +kernel
theorem dX6_digest_36 : decode cX6_digest 36 = .ok (.iconst 0, 1) := by decide +kernel
theorem dX6_digest_37 : decode cX6_digest 37 = .ok (.istore_n 1, 1) := by decide +kernel
theorem dX6_digest_38 : decode cX6_digest 38 = .ok (.iload_n 1, 1) := by decide +kernel
theorem dX6_digest_39 : decode cX6_digest 39 = .ok (.bipush 6, 2) := by decide +kernel
theorem dX6_digest_41 : decode cX6_digest 41 = .ok (.if_icmp .ge 14, 3) := by decide +kernel
theorem dX6_digest_44 : decode cX6_digest 44 = .ok (.aload_n 0, 1) := by decide +kernel
theorem dX6_digest_45 : decode cX6_digest 45 = .ok (.iload_n 1, 1) := by decide +kernel
theorem dX6_digest_46 : decode cX6_digest 46 = .ok (.invokevirtual 246, 3) := by decide +kernel
theorem dX6_digest_49 : decode cX6_digest 49 = .ok (.iinc 1 1, 3) := by decide +kernel
theorem dX6_digest_52 : decode cX6_digest 52 = .ok (.goto (-14), 3) := by decide +kernel
theorem dX6_digest_55 : decode cX6_digest 55 = .ok (.aload_n 0, 1) := by decide +kernel
theorem dX6_digest_56 : decode cX6_digest 56 = .ok (.aload_n 0, 1) := by decide +kernel
theorem dX6_digest_57 : decode cX6_digest 57 = .ok (.invokevirtual 230, 3) := by decide +kernel
theorem dX6_digest_60 : decode cX6_digest 60 = .ok (.invokestatic 249, 3) := by decide +kernel
theorem dX6_digest_63 : decode cX6_digest 63 = .ok (.invokevirtual 240, 3) := by decide +kernel
theorem dX6_digest_66 : decode cX6_digest 66 = .ok (.aload_n 0, 1) := by decide +kernel
theorem dX6_digest_67 : decode cX6_digest 67 = .ok (.aload_n 0, 1) := by decide +kernel
theorem dX6_digest_68 : decode cX6_digest 68 = .ok (.getfield 165, 3) := by decide +kernel
theorem dX6_digest_71 : decode cX6_digest 71 = .ok (.i2l, 1) := by decide +kernel
theorem dX6_digest_72 : decode cX6_digest 72 = .ok (.invokevirtual 240, 3) := by decide +kernel
theorem dX6_digest_75 : decode cX6_digest 75 = .ok (.iconst 0, 1) := by decide +kernel
theorem dX6_digest_76 : decode cX6_digest 76 = .ok (.istore_n 1, 1) := by decide +kernel
theorem dX6_digest_77 : decode cX6_digest 77 = .ok (.iload_n 1, 1) := by decide +kernel
theorem dX6_digest_78 : decode cX6_digest 78 = .ok (.aload_n 0, 1) := by decide +kernel
theorem dX6_digest_79 : decode cX6_digest 79 = .ok (.getfield 165, 3) := by decide +kernel
theorem dX6_digest_82 : decode cX6_digest 82 = .ok (.if_icmp .ge 20, 3) := by decide +kernel
theorem dX6_digest_85 : decode cX6_digest 85 = .ok (.aload_n 0, 1) := by decide +kernel
theorem dX6_digest_86 : decode cX6_digest 86 = .ok (.aload_n 0, 1) := by decide +kernel
theorem dX6_digest_87 : decode cX6_digest 87 = .ok (.getfield 25, 3) := by decide +kernel
theorem dX6_digest_90 : decode cX6_digest 90 = .ok (.iload_n 1, 1) := by decide +kernel
theorem dX6_digest_91 : decode cX6_digest 91 = .ok (.iaload, 1) := by decide +kernel
theorem dX6_digest_92 : decode cX6_digest 92 = .ok (.i2l, 1) := by decide +kernel
theorem dX6_digest_93 : decode cX6_digest 93 = .ok (.invokevirtual 240, 3) := by decide +kernel
theorem dX6_digest_96 : decode cX6_digest 96 = .ok (.iinc 1 1, 3) := by decide +kernel
theorem dX6_digest_99 : decode cX6_digest 99 = .ok (.goto (-22), 3) := by decide +kernel
theorem dX6_digest_102 : decode cX6_digest 102 = .ok (.aload_n 0, 1) := by decide +kernel
theorem dX6_digest_103 : decode cX6_digest 103 = .ok (.getfield 236, 3) := by decide +kernel
theorem dX6_digest_106 : decode cX6_digest 106 = .ok (.lreturn, 1) := by decide +kernel
theorem dJxe99ae_isNaN_b9ae7_0 : decode cJxe99ae_isNaN_b9ae7 0 = .ok (.dload_n 0, 1) := by decide +kernel
theorem dJxe99ae_isNaN_b9ae7_1 : decode cJxe99ae_isNaN_b9ae7 1 = .ok (.dload_n 0, 1) := by decide +kernel
theorem dJxe99ae_isNaN_b9ae7_2 : decode cJxe99ae_isNaN_b9ae7 2 = .ok (.dcmp .l, 1) := by decide +kernel
theorem dJxe99ae_isNaN_b9ae7_3 : decode cJxe99ae_isNaN_b9ae7 3 = .ok (.ifCond .eq 7, 3) := by decide +kernel
theorem dJxe99ae_isNaN_b9ae7_6 : decode cJxe99ae_isNaN_b9ae7 6 = .ok (.iconst 1, 1) := by decide +kernel
theorem dJxe99ae_isNaN_b9ae7_7 : decode cJxe99ae_isNaN_b9ae7 7 = .ok (.goto 4, 3) := by decide +kernel
theorem dJxe99ae_isNaN_b9ae7_10 : decode cJxe99ae_isNaN_b9ae7 10 = .ok (.iconst 0, 1) := by decide +kernel
theorem dJxe99ae_isNaN_b9ae7_11 : decode cJxe99ae_isNaN_b9ae7 11 = .ok (.ireturn, 1) := by decide +kernel
theorem dJxe99ae_doubleToLongBits_ccdee_0 : decode cJxe99ae_doubleToLongBits_ccdee 0 = .ok (.dload_n 0, 1) := by decide +kernel
theorem dJxe99ae_doubleToLongBits_ccdee_1 : decode cJxe99ae_doubleToLongBits_ccdee 1 = .ok (.invokestatic 122, 3) := by decide +kernel
theorem dJxe99ae_doubleToLongBits_ccdee_4 : decode cJxe99ae_doubleToLongBits_ccdee 4 = .ok (.ifCond .ne 8, 3) := by decide +kernel
theorem dJxe99ae_doubleToLongBits_ccdee_7 : decode cJxe99ae_doubleToLongBits_ccdee 7 = .ok (.dload_n 0, 1) := by decide +kernel
theorem dJxe99ae_doubleToLongBits_ccdee_8 : decode cJxe99ae_doubleToLongBits_ccdee 8 = .ok (.invokestatic 134, 3) := by decide +kernel
theorem dJxe99ae_doubleToLongBits_ccdee_11 : decode cJxe99ae_doubleToLongBits_ccdee 11 = .ok (.lreturn, 1) := by decide +kernel
theorem dJxe99ae_doubleToLongBits_ccdee_12 : decode cJxe99ae_doubleToLongBits_ccdee 12 = .ok (.ldc2_w 137, 3) := by decide +kernel
theorem dJxe99ae_doubleToLongBits_ccdee_15 : decode cJxe99ae_doubleToLongBits_ccdee 15 = .ok (.lreturn, 1) := by decide +kernel
theorem dJ9_floorMod_7cf53_0 : decode cJ9_floorMod_7cf53 0 = .ok (.iload_n 0, 1) := by decide +kernel
theorem dJ9_floorMod_7cf53_1 : decode cJ9_floorMod_7cf53 1 = .ok (.iload_n 1, 1) := by decide +kernel
theorem dJ9_floorMod_7cf53_2 : decode cJ9_floorMod_7cf53 2 = .ok (.irem, 1) := by decide +kernel
theorem dJ9_floorMod_7cf53_3 : decode cJ9_floorMod_7cf53 3 = .ok (.istore_n 2, 1) := by decide +kernel
theorem dJ9_floorMod_7cf53_4 : decode cJ9_floorMod_7cf53 4 = .ok (.iload_n 0, 1) := by decide +kernel
theorem dJ9_floorMod_7cf53_5 : decode cJ9_floorMod_7cf53 5 = .ok (.iload_n 1, 1) := by decide +kernel
theorem dJ9_floorMod_7cf53_6 : decode cJ9_floorMod_7cf53 6 = .ok (.ixor, 1) := by decide +kernel
theorem dJ9_floorMod_7cf53_7 : decode cJ9_floorMod_7cf53 7 = .ok (.ifCond .ge 11, 3) := by decide +kernel
theorem dJ9_floorMod_7cf53_10 : decode cJ9_floorMod_7cf53 10 = .ok (.iload_n 2, 1) := by decide +kernel
theorem dJ9_floorMod_7cf53_11 : decode cJ9_floorMod_7cf53 11 = .ok (.ifCond .eq 7, 3) := by decide +kernel
theorem dJ9_floorMod_7cf53_14 : decode cJ9_floorMod_7cf53 14 = .ok (.iload_n 2, 1) := by decide +kernel
theorem dJ9_floorMod_7cf53_15 : decode cJ9_floorMod_7cf53 15 = .ok (.iload_n 1, 1) := by decide +kernel
theorem dJ9_floorMod_7cf53_16 : decode cJ9_floorMod_7cf53 16 = .ok (.iadd, 1) := by decide +kernel
theorem dJ9_floorMod_7cf53_17 : decode cJ9_floorMod_7cf53 17 = .ok (.ireturn, 1) := by decide +kernel
theorem dJ9_floorMod_7cf53_18 : decode cJ9_floorMod_7cf53 18 = .ok (.iload_n 2, 1) := by decide +kernel
theorem dJ9_floorMod_7cf53_19 : decode cJ9_floorMod_7cf53 19 = .ok (.ireturn, 1) := by decide +kernel
theorem dJ9_max_7cf53_0 : decode cJ9_max_7cf53 0 = .ok (.iload_n 0, 1) := by decide +kernel
theorem dJ9_max_7cf53_1 : decode cJ9_max_7cf53 1 = .ok (.iload_n 1, 1) := by decide +kernel
theorem dJ9_max_7cf53_2 : decode cJ9_max_7cf53 2 = .ok (.if_icmp .lt 7, 3) := by decide +kernel
theorem dJ9_max_7cf53_5 : decode cJ9_max_7cf53 5 = .ok (.iload_n 0, 1) := by decide +kernel
theorem dJ9_max_7cf53_6 : decode cJ9_max_7cf53 6 = .ok (.goto 4, 3) := by decide +kernel
theorem dJ9_max_7cf53_9 : decode cJ9_max_7cf53 9 = .ok (.iload_n 1, 1) := by decide +kernel
theorem dJ9_max_7cf53_10 : decode cJ9_max_7cf53 10 = .ok (.ireturn, 1) := by decide +kernel
theorem dJ7_fill_53178_0 : decode cJ7_fill_53178 0 = .ok (.iconst 0, 1) := by decide +kernel
theorem dJ7_fill_53178_1 : decode cJ7_fill_53178 1 = .ok (.istore_n 2, 1) := by decide +kernel
theorem dJ7_fill_53178_2 : decode cJ7_fill_53178 2 = .ok (.aload_n 0, 1) := by decide +kernel
theorem dJ7_fill_53178_3 : decode cJ7_fill_53178 3 = .ok (.arraylength, 1) := by decide +kernel
theorem dJ7_fill_53178_4 : decode cJ7_fill_53178 4 = .ok (.istore_n 3, 1) := by decide +kernel
theorem dJ7_fill_53178_5 : decode cJ7_fill_53178 5 = .ok (.iload_n 2, 1) := by decide +kernel
theorem dJ7_fill_53178_6 : decode cJ7_fill_53178 6 = .ok (.iload_n 3, 1) := by decide +kernel
theorem dJ7_fill_53178_7 : decode cJ7_fill_53178 7 = .ok (.if_icmp .ge 13, 3) := by decide +kernel
theorem dJ7_fill_53178_10 : decode cJ7_fill_53178 10 = .ok (.aload_n 0, 1) := by decide +kernel
theorem dJ7_fill_53178_11 : decode cJ7_fill_53178 11 = .ok (.iload_n 2, 1) := by decide +kernel
theorem dJ7_fill_53178_12 : decode cJ7_fill_53178 12 = .ok (.iload_n 1, 1) := by decide +kernel
theorem dJ7_fill_53178_13 : decode cJ7_fill_53178 13 = .ok (.iastore, 1) := by decide +kernel
theorem dJ7_fill_53178_14 : decode cJ7_fill_53178 14 = .ok (.iinc 2 1, 3) := by decide +kernel
theorem dJ7_fill_53178_17 : decode cJ7_fill_53178 17 = .ok (.goto (-12), 3) := by decide +kernel
theorem dJ7_fill_53178_20 : decode cJ7_fill_53178 20 = .ok (.return_, 1) := by decide +kernel
theorem dL_cut_0 : decode cL_cut 0 = .ok (.aload_n 2, 1) := by decide +kernel
theorem dL_cut_1 : decode cL_cut 1 = .ok (.iconst 0, 1) := by decide +kernel
theorem dL_cut_2 : decode cL_cut 2 = .ok (.aload_n 0, 1) := by decide +kernel
theorem dL_cut_3 : decode cL_cut 3 = .ok (.iload_n 1, 1) := by decide +kernel
theorem dL_cut_4 : decode cL_cut 4 = .ok (.invokevirtual 7, 3) := by decide +kernel
theorem dL_cut_7 : decode cL_cut 7 = .ok (.i2l, 1) := by decide +kernel
theorem dL_cut_8 : decode cL_cut 8 = .ok (.lastore, 1) := by decide +kernel
theorem dL_cut_9 : decode cL_cut 9 = .ok (.goto 6, 3) := by decide +kernel
theorem dL_cut_12 : decode cL_cut 12 = .ok (.astore_n 3, 1) := by decide +kernel
theorem dL_cut_13 : decode cL_cut 13 = .ok (.iconst 1, 1) := by decide +kernel
theorem dL_cut_14 : decode cL_cut 14 = .ok (.ireturn, 1) := by decide +kernel
theorem dL_cut_15 : decode cL_cut 15 = .ok (.iconst 0, 1) := by decide +kernel
theorem dL_cut_16 : decode cL_cut 16 = .ok (.ireturn, 1) := by decide +kernel
theorem dL_setField_0 : decode cL_setField 0 = .ok (.aload 4, 2) := by decide +kernel
theorem dL_setField_2 : decode cL_setField 2 = .ok (.iconst 0, 1) := by decide +kernel
theorem dL_setField_3 : decode cL_setField 3 = .ok (.aload_n 0, 1) := by decide +kernel
theorem dL_setField_4 : decode cL_setField 4 = .ok (.iload_n 1, 1) := by decide +kernel
theorem dL_setField_5 : decode cL_setField 5 = .ok (.iload_n 2, 1) := by decide +kernel
theorem dL_setField_6 : decode cL_setField 6 = .ok (.iload_n 3, 1) := by decide +kernel
theorem dL_setField_7 : decode cL_setField 7 = .ok (.invokevirtual 15, 3) := by decide +kernel
theorem dL_setField_10 : decode cL_setField 10 = .ok (.i2l, 1) := by decide +kernel
theorem dL_setField_11 : decode cL_setField 11 = .ok (.lastore, 1) := by decide +kernel
theorem dL_setField_12 : decode cL_setField 12 = .ok (.goto 7, 3) := by decide +kernel
theorem dL_setField_15 : decode cL_setField 15 = .ok (.astore 5, 2) := by decide +kernel
theorem dL_setField_17 : decode cL_setField 17 = .ok (.iconst 1, 1) := by decide +kernel
theorem dL_setField_18 : decode cL_setField 18 = .ok (.ireturn, 1) := by decide +kernel
theorem dL_setField_19 : decode cL_setField 19 = .ok (.iconst 0, 1) := by decide +kernel
theorem dL_setField_20 : decode cL_setField 20 = .ok (.ireturn, 1) := by decide +kernel
theorem dL_setFlow_0 : decode cL_setFlow 0 = .ok (.aload 4, 2) := by decide +kernel
theorem dL_setFlow_2 : decode cL_setFlow 2 = .ok (.iconst 0, 1) := by decide +kernel
theorem dL_setFlow_3 : decode cL_setFlow 3 = .ok (.aload_n 0, 1) := by decide +kernel
theorem dL_setFlow_4 : decode cL_setFlow 4 = .ok (.iload_n 1, 1) := by decide +kernel
theorem dL_setFlow_5 : decode cL_setFlow 5 = .ok (.iload_n 2, 1) := by decide +kernel
theorem dL_setFlow_6 : decode cL_setFlow 6 = .ok (.iload_n 3, 1) := by decide +kernel
theorem dL_setFlow_7 : decode cL_setFlow 7 = .ok (.invokevirtual 21, 3) := by decide +kernel
theorem dL_setFlow_10 : decode cL_setFlow 10 = .ok (.i2l, 1) := by decide +kernel
theorem dL_setFlow_11 : decode cL_setFlow 11 = .ok (.lastore, 1) := by decide +kernel
theorem dL_setFlow_12 : decode cL_setFlow 12 = .ok (.goto 7, 3) := by decide +kernel
theorem dL_setFlow_15 : decode cL_setFlow 15 = .ok (.astore 5, 2) := by decide +kernel
theorem dL_setFlow_17 : decode cL_setFlow 17 = .ok (.iconst 1, 1) := by decide +kernel
theorem dL_setFlow_18 : decode cL_setFlow 18 = .ok (.ireturn, 1) := by decide +kernel
theorem dL_setFlow_19 : decode cL_setFlow 19 = .ok (.iconst 0, 1) := by decide +kernel
theorem dL_setFlow_20 : decode cL_setFlow 20 = .ok (.ireturn, 1) := by decide +kernel
theorem dL_earn_0 : decode cL_earn 0 = .ok (.aload_n 2, 1) := by decide +kernel
theorem dL_earn_1 : decode cL_earn 1 = .ok (.iconst 0, 1) := by decide +kernel
theorem dL_earn_2 : decode cL_earn 2 = .ok (.aload_n 0, 1) := by decide +kernel
theorem dL_earn_3 : decode cL_earn 3 = .ok (.iload_n 1, 1) := by decide +kernel
theorem dL_earn_4 : decode cL_earn 4 = .ok (.invokevirtual 24, 3) := by decide +kernel
theorem dL_earn_7 : decode cL_earn 7 = .ok (.i2l, 1) := by decide +kernel
theorem dL_earn_8 : decode cL_earn 8 = .ok (.lastore, 1) := by decide +kernel
theorem dL_earn_9 : decode cL_earn 9 = .ok (.goto 9, 3) := by decide +kernel
theorem dL_earn_12 : decode cL_earn 12 = .ok (.astore_n 3, 1) := by decide +kernel
theorem dL_earn_13 : decode cL_earn 13 = .ok (.iconst 1, 1) := by decide +kernel
theorem dL_earn_14 : decode cL_earn 14 = .ok (.ireturn, 1) := by decide +kernel
theorem dL_earn_15 : decode cL_earn 15 = .ok (.astore_n 3, 1) := by decide +kernel
theorem dL_earn_16 : decode cL_earn 16 = .ok (.iconst 2, 1) := by decide +kernel
theorem dL_earn_17 : decode cL_earn 17 = .ok (.ireturn, 1) := by decide +kernel
theorem dL_earn_18 : decode cL_earn 18 = .ok (.iconst 0, 1) := by decide +kernel
theorem dL_earn_19 : decode cL_earn 19 = .ok (.ireturn, 1) := by decide +kernel
theorem dL_bracket_0 : decode cL_bracket 0 = .ok (.aload 4, 2) := by decide +kernel
theorem dL_bracket_2 : decode cL_bracket 2 = .ok (.iconst 0, 1) := by decide +kernel
theorem dL_bracket_3 : decode cL_bracket 3 = .ok (.aload_n 0, 1) := by decide +kernel
theorem dL_bracket_4 : decode cL_bracket 4 = .ok (.iload_n 1, 1) := by decide +kernel
theorem dL_bracket_5 : decode cL_bracket 5 = .ok (.iload_n 2, 1) := by decide +kernel
theorem dL_bracket_6 : decode cL_bracket 6 = .ok (.iload_n 3, 1) := by decide +kernel
theorem dL_bracket_7 : decode cL_bracket 7 = .ok (.invokevirtual 29, 3) := by decide +kernel
theorem dL_bracket_10 : decode cL_bracket 10 = .ok (.i2l, 1) := by decide +kernel
theorem dL_bracket_11 : decode cL_bracket 11 = .ok (.lastore, 1) := by decide +kernel
theorem dL_bracket_12 : decode cL_bracket 12 = .ok (.goto 11, 3) := by decide +kernel
theorem dL_bracket_15 : decode cL_bracket 15 = .ok (.astore 5, 2) := by decide +kernel
theorem dL_bracket_17 : decode cL_bracket 17 = .ok (.iconst 1, 1) := by decide +kernel
theorem dL_bracket_18 : decode cL_bracket 18 = .ok (.ireturn, 1) := by decide +kernel
theorem dL_bracket_19 : decode cL_bracket 19 = .ok (.astore 5, 2) := by decide +kernel
theorem dL_bracket_21 : decode cL_bracket 21 = .ok (.iconst 2, 1) := by decide +kernel
theorem dL_bracket_22 : decode cL_bracket 22 = .ok (.ireturn, 1) := by decide +kernel
theorem dL_bracket_23 : decode cL_bracket 23 = .ok (.iconst 0, 1) := by decide +kernel
theorem dL_bracket_24 : decode cL_bracket 24 = .ok (.ireturn, 1) := by decide +kernel
theorem dL_sum_0 : decode cL_sum 0 = .ok (.aload 4, 2) := by decide +kernel
theorem dL_sum_2 : decode cL_sum 2 = .ok (.iconst 0, 1) := by decide +kernel
theorem dL_sum_3 : decode cL_sum 3 = .ok (.aload_n 0, 1) := by decide +kernel
theorem dL_sum_4 : decode cL_sum 4 = .ok (.iload_n 1, 1) := by decide +kernel
theorem dL_sum_5 : decode cL_sum 5 = .ok (.iload_n 2, 1) := by decide +kernel
theorem dL_sum_6 : decode cL_sum 6 = .ok (.iload_n 3, 1) := by decide +kernel
theorem dL_sum_7 : decode cL_sum 7 = .ok (.invokevirtual 32, 3) := by decide +kernel
theorem dL_sum_10 : decode cL_sum 10 = .ok (.i2l, 1) := by decide +kernel
theorem dL_sum_11 : decode cL_sum 11 = .ok (.lastore, 1) := by decide +kernel
theorem dL_sum_12 : decode cL_sum 12 = .ok (.goto 11, 3) := by decide +kernel
theorem dL_sum_15 : decode cL_sum 15 = .ok (.astore 5, 2) := by decide +kernel
theorem dL_sum_17 : decode cL_sum 17 = .ok (.iconst 1, 1) := by decide +kernel
theorem dL_sum_18 : decode cL_sum 18 = .ok (.ireturn, 1) := by decide +kernel
theorem dL_sum_19 : decode cL_sum 19 = .ok (.astore 5, 2) := by decide +kernel
theorem dL_sum_21 : decode cL_sum 21 = .ok (.iconst 2, 1) := by decide +kernel
theorem dL_sum_22 : decode cL_sum 22 = .ok (.ireturn, 1) := by decide +kernel
theorem dL_sum_23 : decode cL_sum 23 = .ok (.iconst 0, 1) := by decide +kernel
theorem dL_sum_24 : decode cL_sum 24 = .ok (.ireturn, 1) := by decide +kernel
theorem dL_scale_0 : decode cL_scale 0 = .ok (.aload 4, 2) := by decide +kernel
theorem dL_scale_2 : decode cL_scale 2 = .ok (.iconst 0, 1) := by decide +kernel
theorem dL_scale_3 : decode cL_scale 3 = .ok (.aload_n 0, 1) := by decide +kernel
theorem dL_scale_4 : decode cL_scale 4 = .ok (.iload_n 1, 1) := by decide +kernel
theorem dL_scale_5 : decode cL_scale 5 = .ok (.iload_n 2, 1) := by decide +kernel
theorem dL_scale_6 : decode cL_scale 6 = .ok (.iload_n 3, 1) := by decide +kernel
theorem dL_scale_7 : decode cL_scale 7 = .ok (.invokevirtual 35, 3) := by decide +kernel
theorem dL_scale_10 : decode cL_scale 10 = .ok (.i2l, 1) := by decide +kernel
theorem dL_scale_11 : decode cL_scale 11 = .ok (.lastore, 1) := by decide +kernel
theorem dL_scale_12 : decode cL_scale 12 = .ok (.goto 11, 3) := by decide +kernel
theorem dL_scale_15 : decode cL_scale 15 = .ok (.astore 5, 2) := by decide +kernel
theorem dL_scale_17 : decode cL_scale 17 = .ok (.iconst 1, 1) := by decide +kernel
theorem dL_scale_18 : decode cL_scale 18 = .ok (.ireturn, 1) := by decide +kernel
theorem dL_scale_19 : decode cL_scale 19 = .ok (.astore 5, 2) := by decide +kernel
theorem dL_scale_21 : decode cL_scale 21 = .ok (.iconst 2, 1) := by decide +kernel
theorem dL_scale_22 : decode cL_scale 22 = .ok (.ireturn, 1) := by decide +kernel
theorem dL_scale_23 : decode cL_scale 23 = .ok (.iconst 0, 1) := by decide +kernel
theorem dL_scale_24 : decode cL_scale 24 = .ok (.ireturn, 1) := by decide +kernel
theorem dL_byBrackets_0 : decode cL_byBrackets 0 = .ok (.aload 4, 2) := by decide +kernel
theorem dL_byBrackets_2 : decode cL_byBrackets 2 = .ok (.iconst 0, 1) := by decide +kernel
theorem dL_byBrackets_3 : decode cL_byBrackets 3 = .ok (.aload_n 0, 1) := by decide +kernel
theorem dL_byBrackets_4 : decode cL_byBrackets 4 = .ok (.iload_n 1, 1) := by decide +kernel
theorem dL_byBrackets_5 : decode cL_byBrackets 5 = .ok (.iload_n 2, 1) := by decide +kernel
theorem dL_byBrackets_6 : decode cL_byBrackets 6 = .ok (.iload_n 3, 1) := by decide +kernel
theorem dL_byBrackets_7 : decode cL_byBrackets 7 = .ok (.invokevirtual 38, 3) := by decide +kernel
theorem dL_byBrackets_10 : decode cL_byBrackets 10 = .ok (.i2l, 1) := by decide +kernel
theorem dL_byBrackets_11 : decode cL_byBrackets 11 = .ok (.lastore, 1) := by decide +kernel
theorem dL_byBrackets_12 : decode cL_byBrackets 12 = .ok (.goto 11, 3) := by decide +kernel
theorem dL_byBrackets_15 : decode cL_byBrackets 15 = .ok (.astore 5, 2) := by decide +kernel
theorem dL_byBrackets_17 : decode cL_byBrackets 17 = .ok (.iconst 1, 1) := by decide +kernel
theorem dL_byBrackets_18 : decode cL_byBrackets 18 = .ok (.ireturn, 1) := by decide +kernel
theorem dL_byBrackets_19 : decode cL_byBrackets 19 = .ok (.astore 5, 2) := by decide +kernel
theorem dL_byBrackets_21 : decode cL_byBrackets 21 = .ok (.iconst 2, 1) := by decide +kernel
theorem dL_byBrackets_22 : decode cL_byBrackets 22 = .ok (.ireturn, 1) := by decide +kernel
theorem dL_byBrackets_23 : decode cL_byBrackets 23 = .ok (.iconst 0, 1) := by decide +kernel
theorem dL_byBrackets_24 : decode cL_byBrackets 24 = .ok (.ireturn, 1) := by decide +kernel
theorem dL_push_0 : decode cL_push 0 = .ok (.aload 4, 2) := by decide +kernel
theorem dL_push_2 : decode cL_push 2 = .ok (.iconst 0, 1) := by decide +kernel
theorem dL_push_3 : decode cL_push 3 = .ok (.aload_n 0, 1) := by decide +kernel
theorem dL_push_4 : decode cL_push 4 = .ok (.iload_n 1, 1) := by decide +kernel
theorem dL_push_5 : decode cL_push 5 = .ok (.iload_n 2, 1) := by decide +kernel
theorem dL_push_6 : decode cL_push 6 = .ok (.iload_n 3, 1) := by decide +kernel
