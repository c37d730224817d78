/-! decode rows of BigCalculator and of the law -/
theorem dBc_init_0 : decode cBc_init 0 = .ok (.aload_n 0, 1) := by decide +kernel
theorem dBc_init_1 : decode cBc_init 1 = .ok (.invokespecial 3, 3) := by decide +kernel
theorem dBc_init_4 : decode cBc_init 4 = .ok (.aload_n 0, 1) := by decide +kernel
theorem dBc_init_5 : decode cBc_init 5 = .ok (.new 9, 3) := by decide +kernel
theorem dBc_init_8 : decode cBc_init 8 = .ok (.dup, 1) := by decide +kernel
theorem dBc_init_9 : decode cBc_init 9 = .ok (.invokespecial 11, 3) := by decide +kernel
theorem dBc_init_12 : decode cBc_init 12 = .ok (.putfield 12, 3) := by decide +kernel
theorem dBc_init_15 : decode cBc_init 15 = .ok (.aload_n 0, 1) := by decide +kernel
theorem dBc_init_16 : decode cBc_init 16 = .ok (.new 16, 3) := by decide +kernel
theorem dBc_init_19 : decode cBc_init 19 = .ok (.dup, 1) := by decide +kernel
theorem dBc_init_20 : decode cBc_init 20 = .ok (.invokespecial 18, 3) := by decide +kernel
theorem dBc_init_23 : decode cBc_init 23 = .ok (.putfield 19, 3) := by decide +kernel
theorem dBc_init_26 : decode cBc_init 26 = .ok (.aload_n 0, 1) := by decide +kernel
theorem dBc_init_27 : decode cBc_init 27 = .ok (.new 23, 3) := by decide +kernel
theorem dBc_init_30 : decode cBc_init 30 = .ok (.dup, 1) := by decide +kernel
theorem dBc_init_31 : decode cBc_init 31 = .ok (.invokespecial 25, 3) := by decide +kernel
theorem dBc_init_34 : decode cBc_init 34 = .ok (.putfield 26, 3) := by decide +kernel
theorem dBc_init_37 : decode cBc_init 37 = .ok (.aload_n 0, 1) := by decide +kernel
theorem dBc_init_38 : decode cBc_init 38 = .ok (.new 30, 3) := by decide +kernel
theorem dBc_init_41 : decode cBc_init 41 = .ok (.dup, 1) := by decide +kernel
theorem dBc_init_42 : decode cBc_init 42 = .ok (.invokespecial 32, 3) := by decide +kernel
theorem dBc_init_45 : decode cBc_init 45 = .ok (.putfield 33, 3) := by decide +kernel
theorem dBc_init_48 : decode cBc_init 48 = .ok (.return_, 1) := by decide +kernel
theorem dBc_compile_0 : decode cBc_compile 0 = .ok (.aload_n 0, 1) := by decide +kernel
theorem dBc_compile_1 : decode cBc_compile 1 = .ok (.getfield 19, 3) := by decide +kernel
theorem dBc_compile_4 : decode cBc_compile 4 = .ok (.aload_n 0, 1) := by decide +kernel
theorem dBc_compile_5 : decode cBc_compile 5 = .ok (.getfield 12, 3) := by decide +kernel
theorem dBc_compile_8 : decode cBc_compile 8 = .ok (.invokevirtual 56, 3) := by decide +kernel
theorem dBc_compile_11 : decode cBc_compile 11 = .ok (.istore_n 1, 1) := by decide +kernel
theorem dBc_compile_12 : decode cBc_compile 12 = .ok (.iload_n 1, 1) := by decide +kernel
theorem dBc_compile_13 : decode cBc_compile 13 = .ok (.ifCond .ne 21, 3) := by decide +kernel
theorem dBc_compile_16 : decode cBc_compile 16 = .ok (.aload_n 0, 1) := by decide +kernel
theorem dBc_compile_17 : decode cBc_compile 17 = .ok (.getfield 19, 3) := by decide +kernel
theorem dBc_compile_20 : decode cBc_compile 20 = .ok (.getfield 60, 3) := by decide +kernel
theorem dBc_compile_23 : decode cBc_compile 23 = .ok (.invokevirtual 64, 3) := by decide +kernel
theorem dBc_compile_26 : decode cBc_compile 26 = .ok (.bipush 10, 2) := by decide +kernel
theorem dBc_compile_28 : decode cBc_compile 28 = .ok (.if_icmp .le 6, 3) := by decide +kernel
theorem dBc_compile_31 : decode cBc_compile 31 = .ok (.bipush (-2), 2) := by decide +kernel
theorem dBc_compile_33 : decode cBc_compile 33 = .ok (.istore_n 1, 1) := by decide +kernel
theorem dBc_compile_34 : decode cBc_compile 34 = .ok (.iload_n 1, 1) := by decide +kernel
theorem dBc_compile_35 : decode cBc_compile 35 = .ok (.ifCond .eq 14, 3) := by decide +kernel
theorem dBc_compile_38 : decode cBc_compile 38 = .ok (.aload_n 0, 1) := by decide +kernel
theorem dBc_compile_39 : decode cBc_compile 39 = .ok (.getfield 19, 3) := by decide +kernel
theorem dBc_compile_42 : decode cBc_compile 42 = .ok (.getfield 60, 3) := by decide +kernel
theorem dBc_compile_45 : decode cBc_compile 45 = .ok (.iconst 0, 1) := by decide +kernel
theorem dBc_compile_46 : decode cBc_compile 46 = .ok (.putfield 70, 3) := by decide +kernel
theorem dBc_compile_49 : decode cBc_compile 49 = .ok (.aload_n 0, 1) := by decide +kernel
theorem dBc_compile_50 : decode cBc_compile 50 = .ok (.getfield 12, 3) := by decide +kernel
theorem dBc_compile_53 : decode cBc_compile 53 = .ok (.iconst 0, 1) := by decide +kernel
theorem dBc_compile_54 : decode cBc_compile 54 = .ok (.putfield 48, 3) := by decide +kernel
theorem dBc_compile_57 : decode cBc_compile 57 = .ok (.aload_n 0, 1) := by decide +kernel
theorem dBc_compile_58 : decode cBc_compile 58 = .ok (.getfield 26, 3) := by decide +kernel
theorem dBc_compile_61 : decode cBc_compile 61 = .ok (.invokevirtual 71, 3) := by decide +kernel
theorem dBc_compile_64 : decode cBc_compile 64 = .ok (.iload_n 1, 1) := by decide +kernel
theorem dBc_compile_65 : decode cBc_compile 65 = .ok (.ireturn, 1) := by decide +kernel
theorem dBc_count_0 : decode cBc_count 0 = .ok (.iload_n 1, 1) := by decide +kernel
theorem dBc_count_1 : decode cBc_count 1 = .ok (.tableswitch 161 0 7 #[47, 55, 66, 74, 82, 90, 103, 130], 47) := by decide +kernel
theorem dBc_count_48 : decode cBc_count 48 = .ok (.aload_n 0, 1) := by decide +kernel
theorem dBc_count_49 : decode cBc_count 49 = .ok (.getfield 12, 3) := by decide +kernel
theorem dBc_count_52 : decode cBc_count 52 = .ok (.getfield 48, 3) := by decide +kernel
theorem dBc_count_55 : decode cBc_count 55 = .ok (.ireturn, 1) := by decide +kernel
theorem dBc_count_56 : decode cBc_count 56 = .ok (.aload_n 0, 1) := by decide +kernel
theorem dBc_count_57 : decode cBc_count 57 = .ok (.getfield 19, 3) := by decide +kernel
theorem dBc_count_60 : decode cBc_count 60 = .ok (.getfield 60, 3) := by decide +kernel
theorem dBc_count_63 : decode cBc_count 63 = .ok (.getfield 70, 3) := by decide +kernel
theorem dBc_count_66 : decode cBc_count 66 = .ok (.ireturn, 1) := by decide +kernel
theorem dBc_count_67 : decode cBc_count 67 = .ok (.aload_n 0, 1) := by decide +kernel
theorem dBc_count_68 : decode cBc_count 68 = .ok (.getfield 26, 3) := by decide +kernel
theorem dBc_count_71 : decode cBc_count 71 = .ok (.getfield 129, 3) := by decide +kernel
theorem dBc_count_74 : decode cBc_count 74 = .ok (.ireturn, 1) := by decide +kernel
theorem dBc_count_75 : decode cBc_count 75 = .ok (.aload_n 0, 1) := by decide +kernel
theorem dBc_count_76 : decode cBc_count 76 = .ok (.getfield 26, 3) := by decide +kernel
theorem dBc_count_79 : decode cBc_count 79 = .ok (.getfield 132, 3) := by decide +kernel
theorem dBc_count_82 : decode cBc_count 82 = .ok (.ireturn, 1) := by decide +kernel
theorem dBc_count_83 : decode cBc_count 83 = .ok (.aload_n 0, 1) := by decide +kernel
theorem dBc_count_84 : decode cBc_count 84 = .ok (.getfield 26, 3) := by decide +kernel
theorem dBc_count_87 : decode cBc_count 87 = .ok (.getfield 135, 3) := by decide +kernel
theorem dBc_count_90 : decode cBc_count 90 = .ok (.ireturn, 1) := by decide +kernel
theorem dBc_count_91 : decode cBc_count 91 = .ok (.aload_n 0, 1) := by decide +kernel
theorem dBc_count_92 : decode cBc_count 92 = .ok (.invokevirtual 138, 3) := by decide +kernel
theorem dBc_count_95 : decode cBc_count 95 = .ok (.ifCond .eq 7, 3) := by decide +kernel
theorem dBc_count_98 : decode cBc_count 98 = .ok (.iconst 1, 1) := by decide +kernel
theorem dBc_count_99 : decode cBc_count 99 = .ok (.goto 4, 3) := by decide +kernel
theorem dBc_count_102 : decode cBc_count 102 = .ok (.iconst 0, 1) := by decide +kernel
theorem dBc_count_103 : decode cBc_count 103 = .ok (.ireturn, 1) := by decide +kernel
theorem dBc_count_104 : decode cBc_count 104 = .ok (.aload_n 0, 1) := by decide +kernel
theorem dBc_count_105 : decode cBc_count 105 = .ok (.invokevirtual 138, 3) := by decide +kernel
theorem dBc_count_108 : decode cBc_count 108 = .ok (.ifCond .eq 21, 3) := by decide +kernel
theorem dBc_count_111 : decode cBc_count 111 = .ok (.aload_n 0, 1) := by decide +kernel
theorem dBc_count_112 : decode cBc_count 112 = .ok (.getfield 26, 3) := by decide +kernel
theorem dBc_count_115 : decode cBc_count 115 = .ok (.getfield 142, 3) := by decide +kernel
theorem dBc_count_118 : decode cBc_count 118 = .ok (.iconst 0, 1) := by decide +kernel
theorem dBc_count_119 : decode cBc_count 119 = .ok (.aaload, 1) := by decide +kernel
theorem dBc_count_120 : decode cBc_count 120 = .ok (.getfield 104, 3) := by decide +kernel
theorem dBc_count_123 : decode cBc_count 123 = .ok (.invokevirtual 146, 3) := by decide +kernel
theorem dBc_count_126 : decode cBc_count 126 = .ok (.goto 4, 3) := by decide +kernel
theorem dBc_count_129 : decode cBc_count 129 = .ok (.iconst (-1), 1) := by decide +kernel
theorem dBc_count_130 : decode cBc_count 130 = .ok (.ireturn, 1) := by decide +kernel
theorem dBc_count_131 : decode cBc_count 131 = .ok (.aload_n 0, 1) := by decide +kernel
theorem dBc_count_132 : decode cBc_count 132 = .ok (.invokevirtual 138, 3) := by decide +kernel
theorem dBc_count_135 : decode cBc_count 135 = .ok (.ifCond .eq 25, 3) := by decide +kernel
theorem dBc_count_138 : decode cBc_count 138 = .ok (.aload_n 0, 1) := by decide +kernel
theorem dBc_count_139 : decode cBc_count 139 = .ok (.getfield 33, 3) := by decide +kernel
theorem dBc_count_142 : decode cBc_count 142 = .ok (.aload_n 0, 1) := by decide +kernel
theorem dBc_count_143 : decode cBc_count 143 = .ok (.getfield 26, 3) := by decide +kernel
theorem dBc_count_146 : decode cBc_count 146 = .ok (.getfield 142, 3) := by decide +kernel
theorem dBc_count_149 : decode cBc_count 149 = .ok (.iconst 0, 1) := by decide +kernel
theorem dBc_count_150 : decode cBc_count 150 = .ok (.aaload, 1) := by decide +kernel
theorem dBc_count_151 : decode cBc_count 151 = .ok (.getfield 104, 3) := by decide +kernel
theorem dBc_count_154 : decode cBc_count 154 = .ok (.invokevirtual 149, 3) := by decide +kernel
theorem dBc_count_157 : decode cBc_count 157 = .ok (.goto 4, 3) := by decide +kernel
theorem dBc_count_160 : decode cBc_count 160 = .ok (.iconst (-1), 1) := by decide +kernel
theorem dBc_count_161 : decode cBc_count 161 = .ok (.ireturn, 1) := by decide +kernel
theorem dBc_count_162 : decode cBc_count 162 = .ok (.iconst (-1), 1) := by decide +kernel
theorem dBc_count_163 : decode cBc_count 163 = .ok (.ireturn, 1) := by decide +kernel
theorem dBc_hasResult_0 : decode cBc_hasResult 0 = .ok (.aload_n 0, 1) := by decide +kernel
theorem dBc_hasResult_1 : decode cBc_hasResult 1 = .ok (.getfield 19, 3) := by decide +kernel
theorem dBc_hasResult_4 : decode cBc_hasResult 4 = .ok (.getfield 60, 3) := by decide +kernel
theorem dBc_hasResult_7 : decode cBc_hasResult 7 = .ok (.getfield 70, 3) := by decide +kernel
theorem dBc_hasResult_10 : decode cBc_hasResult 10 = .ok (.ifCond .le 27, 3) := by decide +kernel
theorem dBc_hasResult_13 : decode cBc_hasResult 13 = .ok (.aload_n 0, 1) := by decide +kernel
theorem dBc_hasResult_14 : decode cBc_hasResult 14 = .ok (.getfield 26, 3) := by decide +kernel
theorem dBc_hasResult_17 : decode cBc_hasResult 17 = .ok (.getfield 129, 3) := by decide +kernel
theorem dBc_hasResult_20 : decode cBc_hasResult 20 = .ok (.aload_n 0, 1) := by decide +kernel
theorem dBc_hasResult_21 : decode cBc_hasResult 21 = .ok (.getfield 19, 3) := by decide +kernel
theorem dBc_hasResult_24 : decode cBc_hasResult 24 = .ok (.getfield 60, 3) := by decide +kernel
theorem dBc_hasResult_27 : decode cBc_hasResult 27 = .ok (.getfield 70, 3) := by decide +kernel
theorem dBc_hasResult_30 : decode cBc_hasResult 30 = .ok (.if_icmp .ne 7, 3) := by decide +kernel
theorem dBc_hasResult_33 : decode cBc_hasResult 33 = .ok (.iconst 1, 1) := by decide +kernel
theorem dBc_hasResult_34 : decode cBc_hasResult 34 = .ok (.goto 4, 3) := by decide +kernel
theorem dBc_hasResult_37 : decode cBc_hasResult 37 = .ok (.iconst 0, 1) := by decide +kernel
theorem dBc_hasResult_38 : decode cBc_hasResult 38 = .ok (.ireturn, 1) := by decide +kernel
theorem dBc_feed_0 : decode cBc_feed 0 = .ok (.iload_n 1, 1) := by decide +kernel
theorem dBc_feed_1 : decode cBc_feed 1 = .ok (.iload_n 2, 1) := by decide +kernel
theorem dBc_feed_2 : decode cBc_feed 2 = .ok (.invokestatic 37, 3) := by decide +kernel
theorem dBc_feed_5 : decode cBc_feed 5 = .ok (.ifCond .ne 13, 3) := by decide +kernel
theorem dBc_feed_8 : decode cBc_feed 8 = .ok (.new 41, 3) := by decide +kernel
theorem dBc_feed_11 : decode cBc_feed 11 = .ok (.dup, 1) := by decide +kernel
theorem dBc_feed_12 : decode cBc_feed 12 = .ok (.ldc 43, 2) := by decide +kernel
theorem dBc_feed_14 : decode cBc_feed 14 = .ok (.invokespecial 45, 3) := by decide +kernel
theorem dBc_feed_17 : decode cBc_feed 17 = .ok (.athrow, 1) := by decide +kernel
theorem dBc_feed_18 : decode cBc_feed 18 = .ok (.aload_n 0, 1) := by decide +kernel
theorem dBc_feed_19 : decode cBc_feed 19 = .ok (.getfield 12, 3) := by decide +kernel
theorem dBc_feed_22 : decode cBc_feed 22 = .ok (.getfield 48, 3) := by decide +kernel
theorem dBc_feed_25 : decode cBc_feed 25 = .ok (.bipush 120, 2) := by decide +kernel
theorem dBc_feed_27 : decode cBc_feed 27 = .ok (.if_icmp .ne 5, 3) := by decide +kernel
theorem dBc_feed_30 : decode cBc_feed 30 = .ok (.iconst (-1), 1) := by decide +kernel
theorem dBc_feed_31 : decode cBc_feed 31 = .ok (.ireturn, 1) := by decide +kernel
theorem dBc_feed_32 : decode cBc_feed 32 = .ok (.aload_n 0, 1) := by decide +kernel
theorem dBc_feed_33 : decode cBc_feed 33 = .ok (.getfield 12, 3) := by decide +kernel
theorem dBc_feed_36 : decode cBc_feed 36 = .ok (.iload_n 1, 1) := by decide +kernel
theorem dBc_feed_37 : decode cBc_feed 37 = .ok (.iload_n 2, 1) := by decide +kernel
theorem dBc_feed_38 : decode cBc_feed 38 = .ok (.invokevirtual 52, 3) := by decide +kernel
theorem dBc_feed_41 : decode cBc_feed 41 = .ok (.aload_n 0, 1) := by decide +kernel
theorem dBc_feed_42 : decode cBc_feed 42 = .ok (.getfield 12, 3) := by decide +kernel
theorem dBc_feed_45 : decode cBc_feed 45 = .ok (.getfield 48, 3) := by decide +kernel
theorem dBc_feed_48 : decode cBc_feed 48 = .ok (.ireturn, 1) := by decide +kernel
theorem dBc_isToken_0 : decode cBc_isToken 0 = .ok (.iload_n 0, 1) := by decide +kernel
theorem dBc_isToken_1 : decode cBc_isToken 1 = .ok (.ifCond .lt 9, 3) := by decide +kernel
theorem dBc_isToken_4 : decode cBc_isToken 4 = .ok (.iload_n 0, 1) := by decide +kernel
theorem dBc_isToken_5 : decode cBc_isToken 5 = .ok (.bipush 13, 2) := by decide +kernel
theorem dBc_isToken_7 : decode cBc_isToken 7 = .ok (.if_icmp .le 5, 3) := by decide +kernel
theorem dBc_isToken_10 : decode cBc_isToken 10 = .ok (.iconst 0, 1) := by decide +kernel
theorem dBc_isToken_11 : decode cBc_isToken 11 = .ok (.ireturn, 1) := by decide +kernel
theorem dBc_isToken_12 : decode cBc_isToken 12 = .ok (.iload_n 0, 1) := by decide +kernel
theorem dBc_isToken_13 : decode cBc_isToken 13 = .ok (.ifCond .ne 13, 3) := by decide +kernel
theorem dBc_isToken_16 : decode cBc_isToken 16 = .ok (.iload_n 1, 1) := by decide +kernel
theorem dBc_isToken_17 : decode cBc_isToken 17 = .ok (.ifCond .lt 7, 3) := by decide +kernel
theorem dBc_isToken_20 : decode cBc_isToken 20 = .ok (.iconst 1, 1) := by decide +kernel
theorem dBc_isToken_21 : decode cBc_isToken 21 = .ok (.goto 4, 3) := by decide +kernel
theorem dBc_isToken_24 : decode cBc_isToken 24 = .ok (.iconst 0, 1) := by decide +kernel
theorem dBc_isToken_25 : decode cBc_isToken 25 = .ok (.ireturn, 1) := by decide +kernel
theorem dBc_isToken_26 : decode cBc_isToken 26 = .ok (.iload_n 0, 1) := by decide +kernel
theorem dBc_isToken_27 : decode cBc_isToken 27 = .ok (.iconst 1, 1) := by decide +kernel
theorem dBc_isToken_28 : decode cBc_isToken 28 = .ok (.if_icmp .ne 19, 3) := by decide +kernel
theorem dBc_isToken_31 : decode cBc_isToken 31 = .ok (.iload_n 1, 1) := by decide +kernel
theorem dBc_isToken_32 : decode cBc_isToken 32 = .ok (.ifCond .lt 13, 3) := by decide +kernel
theorem dBc_isToken_35 : decode cBc_isToken 35 = .ok (.iload_n 1, 1) := by decide +kernel
theorem dBc_isToken_36 : decode cBc_isToken 36 = .ok (.bipush 8, 2) := by decide +kernel
theorem dBc_isToken_38 : decode cBc_isToken 38 = .ok (.if_icmp .ge 7, 3) := by decide +kernel
theorem dBc_isToken_41 : decode cBc_isToken 41 = .ok (.iconst 1, 1) := by decide +kernel
theorem dBc_isToken_42 : decode cBc_isToken 42 = .ok (.goto 4, 3) := by decide +kernel
theorem dBc_isToken_45 : decode cBc_isToken 45 = .ok (.iconst 0, 1) := by decide +kernel
theorem dBc_isToken_46 : decode cBc_isToken 46 = .ok (.ireturn, 1) := by decide +kernel
theorem dBc_isToken_47 : decode cBc_isToken 47 = .ok (.iload_n 1, 1) := by decide +kernel
theorem dBc_isToken_48 : decode cBc_isToken 48 = .ok (.ifCond .ne 7, 3) := by decide +kernel
theorem dBc_isToken_51 : decode cBc_isToken 51 = .ok (.iconst 1, 1) := by decide +kernel
theorem dBc_isToken_52 : decode cBc_isToken 52 = .ok (.goto 4, 3) := by decide +kernel
theorem dBc_isToken_55 : decode cBc_isToken 55 = .ok (.iconst 0, 1) := by decide +kernel
theorem dBc_isToken_56 : decode cBc_isToken 56 = .ok (.ireturn, 1) := by decide +kernel
theorem dBc_set_0 : decode cBc_set 0 = .ok (.aload_n 0, 1) := by decide +kernel
theorem dBc_set_1 : decode cBc_set 1 = .ok (.iload_n 1, 1) := by decide +kernel
theorem dBc_set_2 : decode cBc_set 2 = .ok (.invokevirtual 74, 3) := by decide +kernel
theorem dBc_set_5 : decode cBc_set 5 = .ok (.lload_n 2, 1) := by decide +kernel
theorem dBc_set_6 : decode cBc_set 6 = .ok (.invokevirtual 78, 3) := by decide +kernel
theorem dBc_set_9 : decode cBc_set 9 = .ok (.return_, 1) := by decide +kernel
theorem dBc_variable_0 : decode cBc_variable 0 = .ok (.iload_n 1, 1) := by decide +kernel
theorem dBc_variable_1 : decode cBc_variable 1 = .ok (.ifCond .lt 9, 3) := by decide +kernel
theorem dBc_variable_4 : decode cBc_variable 4 = .ok (.iload_n 1, 1) := by decide +kernel
theorem dBc_variable_5 : decode cBc_variable 5 = .ok (.bipush 8, 2) := by decide +kernel
theorem dBc_variable_7 : decode cBc_variable 7 = .ok (.if_icmp .lt 13, 3) := by decide +kernel
theorem dBc_variable_10 : decode cBc_variable 10 = .ok (.new 41, 3) := by decide +kernel
theorem dBc_variable_13 : decode cBc_variable 13 = .ok (.dup, 1) := by decide +kernel
theorem dBc_variable_14 : decode cBc_variable 14 = .ok (.ldc 153, 2) := by decide +kernel
theorem dBc_variable_16 : decode cBc_variable 16 = .ok (.invokespecial 45, 3) := by decide +kernel
theorem dBc_variable_19 : decode cBc_variable 19 = .ok (.athrow, 1) := by decide +kernel
theorem dBc_variable_20 : decode cBc_variable 20 = .ok (.aload_n 0, 1) := by decide +kernel
theorem dBc_variable_21 : decode cBc_variable 21 = .ok (.getfield 26, 3) := by decide +kernel
theorem dBc_variable_24 : decode cBc_variable 24 = .ok (.getfield 155, 3) := by decide +kernel
theorem dBc_variable_27 : decode cBc_variable 27 = .ok (.iload_n 1, 1) := by decide +kernel
theorem dBc_variable_28 : decode cBc_variable 28 = .ok (.aaload, 1) := by decide +kernel
theorem dBc_variable_29 : decode cBc_variable 29 = .ok (.areturn, 1) := by decide +kernel
theorem dBc_keep_0 : decode cBc_keep 0 = .ok (.aload_n 0, 1) := by decide +kernel
theorem dBc_keep_1 : decode cBc_keep 1 = .ok (.iload_n 1, 1) := by decide +kernel
theorem dBc_keep_2 : decode cBc_keep 2 = .ok (.invokevirtual 74, 3) := by decide +kernel
theorem dBc_keep_5 : decode cBc_keep 5 = .ok (.astore_n 2, 1) := by decide +kernel
theorem dBc_keep_6 : decode cBc_keep 6 = .ok (.aload_n 2, 1) := by decide +kernel
theorem dBc_keep_7 : decode cBc_keep 7 = .ok (.aload_n 0, 1) := by decide +kernel
theorem dBc_keep_8 : decode cBc_keep 8 = .ok (.invokevirtual 84, 3) := by decide +kernel
theorem dBc_keep_11 : decode cBc_keep 11 = .ok (.invokevirtual 88, 3) := by decide +kernel
theorem dBc_keep_14 : decode cBc_keep 14 = .ok (.return_, 1) := by decide +kernel
theorem dBc_result_0 : decode cBc_result 0 = .ok (.aload_n 0, 1) := by decide +kernel
theorem dBc_result_1 : decode cBc_result 1 = .ok (.invokevirtual 138, 3) := by decide +kernel
theorem dBc_result_4 : decode cBc_result 4 = .ok (.ifCond .ne 13, 3) := by decide +kernel
theorem dBc_result_7 : decode cBc_result 7 = .ok (.new 158, 3) := by decide +kernel
theorem dBc_result_10 : decode cBc_result 10 = .ok (.dup, 1) := by decide +kernel
theorem dBc_result_11 : decode cBc_result 11 = .ok (.ldc 160, 2) := by decide +kernel
theorem dBc_result_13 : decode cBc_result 13 = .ok (.invokespecial 162, 3) := by decide +kernel
theorem dBc_result_16 : decode cBc_result 16 = .ok (.athrow, 1) := by decide +kernel
theorem dBc_result_17 : decode cBc_result 17 = .ok (.aload_n 0, 1) := by decide +kernel
theorem dBc_result_18 : decode cBc_result 18 = .ok (.getfield 26, 3) := by decide +kernel
theorem dBc_result_21 : decode cBc_result 21 = .ok (.getfield 142, 3) := by decide +kernel
theorem dBc_result_24 : decode cBc_result 24 = .ok (.iconst 0, 1) := by decide +kernel
theorem dBc_result_25 : decode cBc_result 25 = .ok (.aaload, 1) := by decide +kernel
theorem dBc_result_26 : decode cBc_result 26 = .ok (.areturn, 1) := by decide +kernel
theorem dBc_restart_0 : decode cBc_restart 0 = .ok (.aload_n 0, 1) := by decide +kernel
theorem dBc_restart_1 : decode cBc_restart 1 = .ok (.invokevirtual 92, 3) := by decide +kernel
theorem dBc_restart_4 : decode cBc_restart 4 = .ok (.aload_n 0, 1) := by decide +kernel
theorem dBc_restart_5 : decode cBc_restart 5 = .ok (.getfield 26, 3) := by decide +kernel
theorem dBc_restart_8 : decode cBc_restart 8 = .ok (.invokevirtual 71, 3) := by decide +kernel
theorem dBc_restart_11 : decode cBc_restart 11 = .ok (.return_, 1) := by decide +kernel
theorem dBc_requireCode_0 : decode cBc_requireCode 0 = .ok (.aload_n 0, 1) := by decide +kernel
theorem dBc_requireCode_1 : decode cBc_requireCode 1 = .ok (.getfield 19, 3) := by decide +kernel
theorem dBc_requireCode_4 : decode cBc_requireCode 4 = .ok (.getfield 60, 3) := by decide +kernel
theorem dBc_requireCode_7 : decode cBc_requireCode 7 = .ok (.getfield 70, 3) := by decide +kernel
theorem dBc_requireCode_10 : decode cBc_requireCode 10 = .ok (.ifCond .ne 13, 3) := by decide +kernel
theorem dBc_requireCode_13 : decode cBc_requireCode 13 = .ok (.new 158, 3) := by decide +kernel
theorem dBc_requireCode_16 : decode cBc_requireCode 16 = .ok (.dup, 1) := by decide +kernel
theorem dBc_requireCode_17 : decode cBc_requireCode 17 = .ok (.ldc 163, 2) := by decide +kernel
theorem dBc_requireCode_19 : decode cBc_requireCode 19 = .ok (.invokespecial 162, 3) := by decide +kernel
theorem dBc_requireCode_22 : decode cBc_requireCode 22 = .ok (.athrow, 1) := by decide +kernel
theorem dBc_requireCode_23 : decode cBc_requireCode 23 = .ok (.return_, 1) := by decide +kernel
theorem dBc_run_0 : decode cBc_run 0 = .ok (.aload_n 0, 1) := by decide +kernel
theorem dBc_run_1 : decode cBc_run 1 = .ok (.invokevirtual 92, 3) := by decide +kernel
theorem dBc_run_4 : decode cBc_run 4 = .ok (.iload_n 1, 1) := by decide +kernel
theorem dBc_run_5 : decode cBc_run 5 = .ok (.ifCond .lt 10, 3) := by decide +kernel
theorem dBc_run_8 : decode cBc_run 8 = .ok (.iload_n 1, 1) := by decide +kernel
theorem dBc_run_9 : decode cBc_run 9 = .ok (.sipush 10000, 3) := by decide +kernel
theorem dBc_run_12 : decode cBc_run 12 = .ok (.if_icmp .le 13, 3) := by decide +kernel
theorem dBc_run_15 : decode cBc_run 15 = .ok (.new 41, 3) := by decide +kernel
theorem dBc_run_18 : decode cBc_run 18 = .ok (.dup, 1) := by decide +kernel
theorem dBc_run_19 : decode cBc_run 19 = .ok (.ldc 95, 2) := by decide +kernel
theorem dBc_run_21 : decode cBc_run 21 = .ok (.invokespecial 45, 3) := by decide +kernel
theorem dBc_run_24 : decode cBc_run 24 = .ok (.athrow, 1) := by decide +kernel
theorem dBc_run_25 : decode cBc_run 25 = .ok (.aload_n 0, 1) := by decide +kernel
theorem dBc_run_26 : decode cBc_run 26 = .ok (.getfield 26, 3) := by decide +kernel
theorem dBc_run_29 : decode cBc_run 29 = .ok (.aload_n 0, 1) := by decide +kernel
theorem dBc_run_30 : decode cBc_run 30 = .ok (.getfield 19, 3) := by decide +kernel
theorem dBc_run_33 : decode cBc_run 33 = .ok (.getfield 60, 3) := by decide +kernel
theorem dBc_run_36 : decode cBc_run 36 = .ok (.iload_n 1, 1) := by decide +kernel
theorem dBc_run_37 : decode cBc_run 37 = .ok (.invokevirtual 97, 3) := by decide +kernel
theorem dBc_run_40 : decode cBc_run 40 = .ok (.ireturn, 1) := by decide +kernel
theorem dBc_sign_0 : decode cBc_sign 0 = .ok (.aload_n 0, 1) := by decide +kernel
theorem dBc_sign_1 : decode cBc_sign 1 = .ok (.invokevirtual 84, 3) := by decide +kernel
theorem dBc_sign_4 : decode cBc_sign 4 = .ok (.invokevirtual 101, 3) := by decide +kernel
theorem dBc_sign_7 : decode cBc_sign 7 = .ok (.ireturn, 1) := by decide +kernel
theorem dBc_limb_0 : decode cBc_limb 0 = .ok (.aload_n 0, 1) := by decide +kernel
theorem dBc_limb_1 : decode cBc_limb 1 = .ok (.invokevirtual 84, 3) := by decide +kernel
theorem dBc_limb_4 : decode cBc_limb 4 = .ok (.getfield 104, 3) := by decide +kernel
theorem dBc_limb_7 : decode cBc_limb 7 = .ok (.astore_n 2, 1) := by decide +kernel
theorem dBc_limb_8 : decode cBc_limb 8 = .ok (.iload_n 1, 1) := by decide +kernel
theorem dBc_limb_9 : decode cBc_limb 9 = .ok (.ifCond .lt 9, 3) := by decide +kernel
theorem dBc_limb_12 : decode cBc_limb 12 = .ok (.iload_n 1, 1) := by decide +kernel
theorem dBc_limb_13 : decode cBc_limb 13 = .ok (.bipush 24, 2) := by decide +kernel
theorem dBc_limb_15 : decode cBc_limb 15 = .ok (.if_icmp .lt 13, 3) := by decide +kernel
theorem dBc_limb_18 : decode cBc_limb 18 = .ok (.new 108, 3) := by decide +kernel
theorem dBc_limb_21 : decode cBc_limb 21 = .ok (.dup, 1) := by decide +kernel
theorem dBc_limb_22 : decode cBc_limb 22 = .ok (.ldc 110, 2) := by decide +kernel
theorem dBc_limb_24 : decode cBc_limb 24 = .ok (.invokespecial 112, 3) := by decide +kernel
theorem dBc_limb_27 : decode cBc_limb 27 = .ok (.athrow, 1) := by decide +kernel
theorem dBc_limb_28 : decode cBc_limb 28 = .ok (.aload_n 2, 1) := by decide +kernel
theorem dBc_limb_29 : decode cBc_limb 29 = .ok (.iload_n 1, 1) := by decide +kernel
theorem dBc_limb_30 : decode cBc_limb 30 = .ok (.invokevirtual 113, 3) := by decide +kernel
theorem dBc_limb_33 : decode cBc_limb 33 = .ok (.lreturn, 1) := by decide +kernel
theorem dBc_digit_0 : decode cBc_digit 0 = .ok (.aload_n 0, 1) := by decide +kernel
theorem dBc_digit_1 : decode cBc_digit 1 = .ok (.invokevirtual 84, 3) := by decide +kernel
theorem dBc_digit_4 : decode cBc_digit 4 = .ok (.getfield 104, 3) := by decide +kernel
theorem dBc_digit_7 : decode cBc_digit 7 = .ok (.astore_n 2, 1) := by decide +kernel
theorem dBc_digit_8 : decode cBc_digit 8 = .ok (.iload_n 1, 1) := by decide +kernel
theorem dBc_digit_9 : decode cBc_digit 9 = .ok (.ifCond .ge 13, 3) := by decide +kernel
theorem dBc_digit_12 : decode cBc_digit 12 = .ok (.new 108, 3) := by decide +kernel
theorem dBc_digit_15 : decode cBc_digit 15 = .ok (.dup, 1) := by decide +kernel
theorem dBc_digit_16 : decode cBc_digit 16 = .ok (.ldc 119, 2) := by decide +kernel
theorem dBc_digit_18 : decode cBc_digit 18 = .ok (.invokespecial 112, 3) := by decide +kernel
theorem dBc_digit_21 : decode cBc_digit 21 = .ok (.athrow, 1) := by decide +kernel
theorem dBc_digit_22 : decode cBc_digit 22 = .ok (.aload_n 0, 1) := by decide +kernel
theorem dBc_digit_23 : decode cBc_digit 23 = .ok (.getfield 33, 3) := by decide +kernel
theorem dBc_digit_26 : decode cBc_digit 26 = .ok (.aload_n 2, 1) := by decide +kernel
theorem dBc_digit_27 : decode cBc_digit 27 = .ok (.iload_n 1, 1) := by decide +kernel
theorem dBc_digit_28 : decode cBc_digit 28 = .ok (.invokevirtual 121, 3) := by decide +kernel
theorem dBc_digit_31 : decode cBc_digit 31 = .ok (.ireturn, 1) := by decide +kernel
theorem dBc_compare_0 : decode cBc_compare 0 = .ok (.aload_n 0, 1) := by decide +kernel
theorem dBc_compare_1 : decode cBc_compare 1 = .ok (.iload_n 1, 1) := by decide +kernel
theorem dBc_compare_2 : decode cBc_compare 2 = .ok (.invokevirtual 74, 3) := by decide +kernel
theorem dBc_compare_5 : decode cBc_compare 5 = .ok (.astore_n 2, 1) := by decide +kernel
theorem dBc_compare_6 : decode cBc_compare 6 = .ok (.aload_n 0, 1) := by decide +kernel
theorem dBc_compare_7 : decode cBc_compare 7 = .ok (.invokevirtual 84, 3) := by decide +kernel
theorem dBc_compare_10 : decode cBc_compare 10 = .ok (.aload_n 2, 1) := by decide +kernel
theorem dBc_compare_11 : decode cBc_compare 11 = .ok (.invokevirtual 125, 3) := by decide +kernel
theorem dBc_compare_14 : decode cBc_compare 14 = .ok (.ireturn, 1) := by decide +kernel
theorem dLa_feed_0 : decode cLa_feed 0 = .ok (.aload_n 3, 1) := by decide +kernel
theorem dLa_feed_1 : decode cLa_feed 1 = .ok (.iconst 0, 1) := by decide +kernel
theorem dLa_feed_2 : decode cLa_feed 2 = .ok (.aload_n 0, 1) := by decide +kernel
theorem dLa_feed_3 : decode cLa_feed 3 = .ok (.iload_n 1, 1) := by decide +kernel
theorem dLa_feed_4 : decode cLa_feed 4 = .ok (.iload_n 2, 1) := by decide +kernel
theorem dLa_feed_5 : decode cLa_feed 5 = .ok (.invokevirtual 7, 3) := by decide +kernel
theorem dLa_feed_8 : decode cLa_feed 8 = .ok (.i2l, 1) := by decide +kernel
theorem dLa_feed_9 : decode cLa_feed 9 = .ok (.lastore, 1) := by decide +kernel
theorem dLa_feed_10 : decode cLa_feed 10 = .ok (.goto 7, 3) := by decide +kernel
theorem dLa_feed_13 : decode cLa_feed 13 = .ok (.astore 4, 2) := by decide +kernel
theorem dLa_feed_15 : decode cLa_feed 15 = .ok (.iconst 1, 1) := by decide +kernel
theorem dLa_feed_16 : decode cLa_feed 16 = .ok (.ireturn, 1) := by decide +kernel
theorem dLa_feed_17 : decode cLa_feed 17 = .ok (.iconst 0, 1) := by decide +kernel
theorem dLa_feed_18 : decode cLa_feed 18 = .ok (.ireturn, 1) := by decide +kernel
theorem dLa_set_0 : decode cLa_set 0 = .ok (.aload_n 0, 1) := by decide +kernel
theorem dLa_set_1 : decode cLa_set 1 = .ok (.iload_n 1, 1) := by decide +kernel
theorem dLa_set_2 : decode cLa_set 2 = .ok (.lload_n 2, 1) := by decide +kernel
theorem dLa_set_3 : decode cLa_set 3 = .ok (.invokevirtual 15, 3) := by decide +kernel
theorem dLa_set_6 : decode cLa_set 6 = .ok (.goto 7, 3) := by decide +kernel
theorem dLa_set_9 : decode cLa_set 9 = .ok (.astore 4, 2) := by decide +kernel
theorem dLa_set_11 : decode cLa_set 11 = .ok (.iconst 1, 1) := by decide +kernel
theorem dLa_set_12 : decode cLa_set 12 = .ok (.ireturn, 1) := by decide +kernel
theorem dLa_set_13 : decode cLa_set 13 = .ok (.iconst 0, 1) := by decide +kernel
theorem dLa_set_14 : decode cLa_set 14 = .ok (.ireturn, 1) := by decide +kernel
theorem dLa_keep_0 : decode cLa_keep 0 = .ok (.aload_n 0, 1) := by decide +kernel
theorem dLa_keep_1 : decode cLa_keep 1 = .ok (.iload_n 1, 1) := by decide +kernel
theorem dLa_keep_2 : decode cLa_keep 2 = .ok (.invokevirtual 19, 3) := by decide +kernel
theorem dLa_keep_5 : decode cLa_keep 5 = .ok (.goto 9, 3) := by decide +kernel
theorem dLa_keep_8 : decode cLa_keep 8 = .ok (.astore_n 2, 1) := by decide +kernel
theorem dLa_keep_9 : decode cLa_keep 9 = .ok (.iconst 1, 1) := by decide +kernel
theorem dLa_keep_10 : decode cLa_keep 10 = .ok (.ireturn, 1) := by decide +kernel
theorem dLa_keep_11 : decode cLa_keep 11 = .ok (.astore_n 2, 1) := by decide +kernel
theorem dLa_keep_12 : decode cLa_keep 12 = .ok (.iconst 2, 1) := by decide +kernel
theorem dLa_keep_13 : decode cLa_keep 13 = .ok (.ireturn, 1) := by decide +kernel
theorem dLa_keep_14 : decode cLa_keep 14 = .ok (.iconst 0, 1) := by decide +kernel
theorem dLa_keep_15 : decode cLa_keep 15 = .ok (.ireturn, 1) := by decide +kernel
theorem dLa_restart_0 : decode cLa_restart 0 = .ok (.aload_n 0, 1) := by decide +kernel
theorem dLa_restart_1 : decode cLa_restart 1 = .ok (.invokevirtual 25, 3) := by decide +kernel
theorem dLa_restart_4 : decode cLa_restart 4 = .ok (.goto 6, 3) := by decide +kernel
theorem dLa_restart_7 : decode cLa_restart 7 = .ok (.astore_n 1, 1) := by decide +kernel
theorem dLa_restart_8 : decode cLa_restart 8 = .ok (.iconst 1, 1) := by decide +kernel
theorem dLa_restart_9 : decode cLa_restart 9 = .ok (.ireturn, 1) := by decide +kernel
theorem dLa_restart_10 : decode cLa_restart 10 = .ok (.iconst 0, 1) := by decide +kernel
theorem dLa_restart_11 : decode cLa_restart 11 = .ok (.ireturn, 1) := by decide +kernel
theorem dLa_run_0 : decode cLa_run 0 = .ok (.aload_n 2, 1) := by decide +kernel
theorem dLa_run_1 : decode cLa_run 1 = .ok (.iconst 0, 1) := by decide +kernel
theorem dLa_run_2 : decode cLa_run 2 = .ok (.aload_n 0, 1) := by decide +kernel
theorem dLa_run_3 : decode cLa_run 3 = .ok (.iload_n 1, 1) := by decide +kernel
theorem dLa_run_4 : decode cLa_run 4 = .ok (.invokevirtual 28, 3) := by decide +kernel
theorem dLa_run_7 : decode cLa_run 7 = .ok (.i2l, 1) := by decide +kernel
theorem dLa_run_8 : decode cLa_run 8 = .ok (.lastore, 1) := by decide +kernel
theorem dLa_run_9 : decode cLa_run 9 = .ok (.goto 9, 3) := by decide +kernel
theorem dLa_run_12 : decode cLa_run 12 = .ok (.astore_n 3, 1) := by decide +kernel
theorem dLa_run_13 : decode cLa_run 13 = .ok (.iconst 1, 1) := by decide +kernel
theorem dLa_run_14 : decode cLa_run 14 = .ok (.ireturn, 1) := by decide +kernel
theorem dLa_run_15 : decode cLa_run 15 = .ok (.astore_n 3, 1) := by decide +kernel
theorem dLa_run_16 : decode cLa_run 16 = .ok (.iconst 2, 1) := by decide +kernel
theorem dLa_run_17 : decode cLa_run 17 = .ok (.ireturn, 1) := by decide +kernel
theorem dLa_run_18 : decode cLa_run 18 = .ok (.iconst 0, 1) := by decide +kernel
theorem dLa_run_19 : decode cLa_run 19 = .ok (.ireturn, 1) := by decide +kernel
theorem dLa_sign_0 : decode cLa_sign 0 = .ok (.aload_n 1, 1) := by decide +kernel
theorem dLa_sign_1 : decode cLa_sign 1 = .ok (.iconst 0, 1) := by decide +kernel
theorem dLa_sign_2 : decode cLa_sign 2 = .ok (.aload_n 0, 1) := by decide +kernel
theorem dLa_sign_3 : decode cLa_sign 3 = .ok (.invokevirtual 32, 3) := by decide +kernel
theorem dLa_sign_6 : decode cLa_sign 6 = .ok (.i2l, 1) := by decide +kernel
theorem dLa_sign_7 : decode cLa_sign 7 = .ok (.lastore, 1) := by decide +kernel
theorem dLa_sign_8 : decode cLa_sign 8 = .ok (.goto 6, 3) := by decide +kernel
theorem dLa_sign_11 : decode cLa_sign 11 = .ok (.astore_n 2, 1) := by decide +kernel
theorem dLa_sign_12 : decode cLa_sign 12 = .ok (.iconst 1, 1) := by decide +kernel
theorem dLa_sign_13 : decode cLa_sign 13 = .ok (.ireturn, 1) := by decide +kernel
theorem dLa_sign_14 : decode cLa_sign 14 = .ok (.iconst 0, 1) := by decide +kernel
theorem dLa_sign_15 : decode cLa_sign 15 = .ok (.ireturn, 1) := by decide +kernel
theorem dLa_limb_0 : decode cLa_limb 0 = .ok (.aload_n 2, 1) := by decide +kernel
theorem dLa_limb_1 : decode cLa_limb 1 = .ok (.iconst 0, 1) := by decide +kernel
theorem dLa_limb_2 : decode cLa_limb 2 = .ok (.aload_n 0, 1) := by decide +kernel
theorem dLa_limb_3 : decode cLa_limb 3 = .ok (.iload_n 1, 1) := by decide +kernel
theorem dLa_limb_4 : decode cLa_limb 4 = .ok (.invokevirtual 36, 3) := by decide +kernel
theorem dLa_limb_7 : decode cLa_limb 7 = .ok (.lastore, 1) := by decide +kernel
theorem dLa_limb_8 : decode cLa_limb 8 = .ok (.goto 9, 3) := by decide +kernel
theorem dLa_limb_11 : decode cLa_limb 11 = .ok (.astore_n 3, 1) := by decide +kernel
theorem dLa_limb_12 : decode cLa_limb 12 = .ok (.iconst 1, 1) := by decide +kernel
theorem dLa_limb_13 : decode cLa_limb 13 = .ok (.ireturn, 1) := by decide +kernel
theorem dLa_limb_14 : decode cLa_limb 14 = .ok (.astore_n 3, 1) := by decide +kernel
theorem dLa_limb_15 : decode cLa_limb 15 = .ok (.iconst 2, 1) := by decide +kernel
theorem dLa_limb_16 : decode cLa_limb 16 = .ok (.ireturn, 1) := by decide +kernel
theorem dLa_limb_17 : decode cLa_limb 17 = .ok (.iconst 0, 1) := by decide +kernel
theorem dLa_limb_18 : decode cLa_limb 18 = .ok (.ireturn, 1) := by decide +kernel
theorem dLa_digit_0 : decode cLa_digit 0 = .ok (.aload_n 2, 1) := by decide +kernel
theorem dLa_digit_1 : decode cLa_digit 1 = .ok (.iconst 0, 1) := by decide +kernel
theorem dLa_digit_2 : decode cLa_digit 2 = .ok (.aload_n 0, 1) := by decide +kernel
theorem dLa_digit_3 : decode cLa_digit 3 = .ok (.iload_n 1, 1) := by decide +kernel
theorem dLa_digit_4 : decode cLa_digit 4 = .ok (.invokevirtual 42, 3) := by decide +kernel
theorem dLa_digit_7 : decode cLa_digit 7 = .ok (.i2l, 1) := by decide +kernel
theorem dLa_digit_8 : decode cLa_digit 8 = .ok (.lastore, 1) := by decide +kernel
theorem dLa_digit_9 : decode cLa_digit 9 = .ok (.goto 9, 3) := by decide +kernel
theorem dLa_digit_12 : decode cLa_digit 12 = .ok (.astore_n 3, 1) := by decide +kernel
theorem dLa_digit_13 : decode cLa_digit 13 = .ok (.iconst 1, 1) := by decide +kernel
theorem dLa_digit_14 : decode cLa_digit 14 = .ok (.ireturn, 1) := by decide +kernel
theorem dLa_digit_15 : decode cLa_digit 15 = .ok (.astore_n 3, 1) := by decide +kernel
theorem dLa_digit_16 : decode cLa_digit 16 = .ok (.iconst 2, 1) := by decide +kernel
theorem dLa_digit_17 : decode cLa_digit 17 = .ok (.ireturn, 1) := by decide +kernel
theorem dLa_digit_18 : decode cLa_digit 18 = .ok (.iconst 0, 1) := by decide +kernel
theorem dLa_digit_19 : decode cLa_digit 19 = .ok (.ireturn, 1) := by decide +kernel
theorem dLa_compare_0 : decode cLa_compare 0 = .ok (.aload_n 2, 1) := by decide +kernel
theorem dLa_compare_1 : decode cLa_compare 1 = .ok (.iconst 0, 1) := by decide +kernel
theorem dLa_compare_2 : decode cLa_compare 2 = .ok (.aload_n 0, 1) := by decide +kernel
theorem dLa_compare_3 : decode cLa_compare 3 = .ok (.iload_n 1, 1) := by decide +kernel
theorem dLa_compare_4 : decode cLa_compare 4 = .ok (.invokevirtual 45, 3) := by decide +kernel
theorem dLa_compare_7 : decode cLa_compare 7 = .ok (.i2l, 1) := by decide +kernel
theorem dLa_compare_8 : decode cLa_compare 8 = .ok (.lastore, 1) := by decide +kernel
theorem dLa_compare_9 : decode cLa_compare 9 = .ok (.goto 9, 3) := by decide +kernel
theorem dLa_compare_12 : decode cLa_compare 12 = .ok (.astore_n 3, 1) := by decide +kernel
theorem dLa_compare_13 : decode cLa_compare 13 = .ok (.iconst 1, 1) := by decide +kernel
theorem dLa_compare_14 : decode cLa_compare 14 = .ok (.ireturn, 1) := by decide +kernel
theorem dLa_compare_15 : decode cLa_compare 15 = .ok (.astore_n 3, 1) := by decide +kernel
theorem dLa_compare_16 : decode cLa_compare 16 = .ok (.iconst 2, 1) := by decide +kernel
theorem dLa_compare_17 : decode cLa_compare 17 = .ok (.ireturn, 1) := by decide +kernel
theorem dLa_compare_18 : decode cLa_compare 18 = .ok (.iconst 0, 1) := by decide +kernel
theorem dLa_compare_19 : decode cLa_compare 19 = .ok (.ireturn, 1) := by decide +kernel
