/-! decode rows of the reference -/
theorem dMo_init_0 : decode cMo_init 0 = .ok (.aload_n 0, 1) := by decide +kernel
theorem dMo_init_1 : decode cMo_init 1 = .ok (.invokespecial 1, 3) := by decide +kernel
theorem dMo_init_4 : decode cMo_init 4 = .ok (.aload_n 0, 1) := by decide +kernel
theorem dMo_init_5 : decode cMo_init 5 = .ok (.sipush 1536, 3) := by decide +kernel
theorem dMo_init_8 : decode cMo_init 8 = .ok (.newarray .long, 2) := by decide +kernel
theorem dMo_init_10 : decode cMo_init 10 = .ok (.putfield 7, 3) := by decide +kernel
theorem dMo_init_13 : decode cMo_init 13 = .ok (.aload_n 0, 1) := by decide +kernel
theorem dMo_init_14 : decode cMo_init 14 = .ok (.bipush 24, 2) := by decide +kernel
theorem dMo_init_16 : decode cMo_init 16 = .ok (.newarray .int, 2) := by decide +kernel
theorem dMo_init_18 : decode cMo_init 18 = .ok (.putfield 13, 3) := by decide +kernel
theorem dMo_init_21 : decode cMo_init 21 = .ok (.aload_n 0, 1) := by decide +kernel
theorem dMo_init_22 : decode cMo_init 22 = .ok (.bipush 120, 2) := by decide +kernel
theorem dMo_init_24 : decode cMo_init 24 = .ok (.newarray .int, 2) := by decide +kernel
theorem dMo_init_26 : decode cMo_init 26 = .ok (.putfield 17, 3) := by decide +kernel
theorem dMo_init_29 : decode cMo_init 29 = .ok (.aload_n 0, 1) := by decide +kernel
theorem dMo_init_30 : decode cMo_init 30 = .ok (.bipush 120, 2) := by decide +kernel
theorem dMo_init_32 : decode cMo_init 32 = .ok (.newarray .int, 2) := by decide +kernel
theorem dMo_init_34 : decode cMo_init 34 = .ok (.putfield 20, 3) := by decide +kernel
theorem dMo_init_37 : decode cMo_init 37 = .ok (.aload_n 0, 1) := by decide +kernel
theorem dMo_init_38 : decode cMo_init 38 = .ok (.bipush 120, 2) := by decide +kernel
theorem dMo_init_40 : decode cMo_init 40 = .ok (.newarray .int, 2) := by decide +kernel
theorem dMo_init_42 : decode cMo_init 42 = .ok (.putfield 23, 3) := by decide +kernel
theorem dMo_init_45 : decode cMo_init 45 = .ok (.aload_n 0, 1) := by decide +kernel
theorem dMo_init_46 : decode cMo_init 46 = .ok (.bipush 120, 2) := by decide +kernel
theorem dMo_init_48 : decode cMo_init 48 = .ok (.newarray .int, 2) := by decide +kernel
theorem dMo_init_50 : decode cMo_init 50 = .ok (.putfield 26, 3) := by decide +kernel
theorem dMo_init_53 : decode cMo_init 53 = .ok (.aload_n 0, 1) := by decide +kernel
theorem dMo_init_54 : decode cMo_init 54 = .ok (.bipush 120, 2) := by decide +kernel
theorem dMo_init_56 : decode cMo_init 56 = .ok (.newarray .int, 2) := by decide +kernel
theorem dMo_init_58 : decode cMo_init 58 = .ok (.putfield 29, 3) := by decide +kernel
theorem dMo_init_61 : decode cMo_init 61 = .ok (.aload_n 0, 1) := by decide +kernel
theorem dMo_init_62 : decode cMo_init 62 = .ok (.bipush 120, 2) := by decide +kernel
theorem dMo_init_64 : decode cMo_init 64 = .ok (.newarray .int, 2) := by decide +kernel
theorem dMo_init_66 : decode cMo_init 66 = .ok (.putfield 32, 3) := by decide +kernel
theorem dMo_init_69 : decode cMo_init 69 = .ok (.aload_n 0, 1) := by decide +kernel
theorem dMo_init_70 : decode cMo_init 70 = .ok (.getfield 7, 3) := by decide +kernel
theorem dMo_init_73 : decode cMo_init 73 = .ok (.sipush 1472, 3) := by decide +kernel
theorem dMo_init_76 : decode cMo_init 76 = .ok (.lconst 1, 1) := by decide +kernel
theorem dMo_init_77 : decode cMo_init 77 = .ok (.lastore, 1) := by decide +kernel
theorem dMo_init_78 : decode cMo_init 78 = .ok (.aload_n 0, 1) := by decide +kernel
theorem dMo_init_79 : decode cMo_init 79 = .ok (.getfield 13, 3) := by decide +kernel
theorem dMo_init_82 : decode cMo_init 82 = .ok (.bipush 23, 2) := by decide +kernel
theorem dMo_init_84 : decode cMo_init 84 = .ok (.iconst 1, 1) := by decide +kernel
theorem dMo_init_85 : decode cMo_init 85 = .ok (.iastore, 1) := by decide +kernel
theorem dMo_init_86 : decode cMo_init 86 = .ok (.return_, 1) := by decide +kernel
theorem dMo_thrown_0 : decode cMo_thrown 0 = .ok (.aload_n 0, 1) := by decide +kernel
theorem dMo_thrown_1 : decode cMo_thrown 1 = .ok (.getfield 35, 3) := by decide +kernel
theorem dMo_thrown_4 : decode cMo_thrown 4 = .ok (.ireturn, 1) := by decide +kernel
theorem dMo_feed_0 : decode cMo_feed 0 = .ok (.iload_n 1, 1) := by decide +kernel
theorem dMo_feed_1 : decode cMo_feed 1 = .ok (.ifCond .ne 15, 3) := by decide +kernel
theorem dMo_feed_4 : decode cMo_feed 4 = .ok (.iload_n 2, 1) := by decide +kernel
theorem dMo_feed_5 : decode cMo_feed 5 = .ok (.ifCond .lt 7, 3) := by decide +kernel
theorem dMo_feed_8 : decode cMo_feed 8 = .ok (.iconst 1, 1) := by decide +kernel
theorem dMo_feed_9 : decode cMo_feed 9 = .ok (.goto 50, 3) := by decide +kernel
theorem dMo_feed_12 : decode cMo_feed 12 = .ok (.iconst 0, 1) := by decide +kernel
theorem dMo_feed_13 : decode cMo_feed 13 = .ok (.goto 46, 3) := by decide +kernel
theorem dMo_feed_16 : decode cMo_feed 16 = .ok (.iload_n 1, 1) := by decide +kernel
theorem dMo_feed_17 : decode cMo_feed 17 = .ok (.iconst 1, 1) := by decide +kernel
theorem dMo_feed_18 : decode cMo_feed 18 = .ok (.if_icmp .ne 21, 3) := by decide +kernel
theorem dMo_feed_21 : decode cMo_feed 21 = .ok (.iload_n 2, 1) := by decide +kernel
theorem dMo_feed_22 : decode cMo_feed 22 = .ok (.ifCond .lt 13, 3) := by decide +kernel
theorem dMo_feed_25 : decode cMo_feed 25 = .ok (.iload_n 2, 1) := by decide +kernel
theorem dMo_feed_26 : decode cMo_feed 26 = .ok (.bipush 8, 2) := by decide +kernel
theorem dMo_feed_28 : decode cMo_feed 28 = .ok (.if_icmp .ge 7, 3) := by decide +kernel
theorem dMo_feed_31 : decode cMo_feed 31 = .ok (.iconst 1, 1) := by decide +kernel
theorem dMo_feed_32 : decode cMo_feed 32 = .ok (.goto 27, 3) := by decide +kernel
theorem dMo_feed_35 : decode cMo_feed 35 = .ok (.iconst 0, 1) := by decide +kernel
theorem dMo_feed_36 : decode cMo_feed 36 = .ok (.goto 23, 3) := by decide +kernel
theorem dMo_feed_39 : decode cMo_feed 39 = .ok (.iload_n 1, 1) := by decide +kernel
theorem dMo_feed_40 : decode cMo_feed 40 = .ok (.iconst 1, 1) := by decide +kernel
theorem dMo_feed_41 : decode cMo_feed 41 = .ok (.if_icmp .le 17, 3) := by decide +kernel
theorem dMo_feed_44 : decode cMo_feed 44 = .ok (.iload_n 1, 1) := by decide +kernel
theorem dMo_feed_45 : decode cMo_feed 45 = .ok (.bipush 14, 2) := by decide +kernel
theorem dMo_feed_47 : decode cMo_feed 47 = .ok (.if_icmp .ge 11, 3) := by decide +kernel
theorem dMo_feed_50 : decode cMo_feed 50 = .ok (.iload_n 2, 1) := by decide +kernel
theorem dMo_feed_51 : decode cMo_feed 51 = .ok (.ifCond .ne 7, 3) := by decide +kernel
theorem dMo_feed_54 : decode cMo_feed 54 = .ok (.iconst 1, 1) := by decide +kernel
theorem dMo_feed_55 : decode cMo_feed 55 = .ok (.goto 4, 3) := by decide +kernel
theorem dMo_feed_58 : decode cMo_feed 58 = .ok (.iconst 0, 1) := by decide +kernel
theorem dMo_feed_59 : decode cMo_feed 59 = .ok (.istore_n 3, 1) := by decide +kernel
theorem dMo_feed_60 : decode cMo_feed 60 = .ok (.aload_n 0, 1) := by decide +kernel
theorem dMo_feed_61 : decode cMo_feed 61 = .ok (.iload_n 3, 1) := by decide +kernel
theorem dMo_feed_62 : decode cMo_feed 62 = .ok (.ifCond .ne 7, 3) := by decide +kernel
theorem dMo_feed_65 : decode cMo_feed 65 = .ok (.iconst 1, 1) := by decide +kernel
theorem dMo_feed_66 : decode cMo_feed 66 = .ok (.goto 4, 3) := by decide +kernel
theorem dMo_feed_69 : decode cMo_feed 69 = .ok (.iconst 0, 1) := by decide +kernel
theorem dMo_feed_70 : decode cMo_feed 70 = .ok (.iconst 1, 1) := by decide +kernel
theorem dMo_feed_71 : decode cMo_feed 71 = .ok (.invokevirtual 39, 3) := by decide +kernel
theorem dMo_feed_74 : decode cMo_feed 74 = .ok (.ifCond .eq 5, 3) := by decide +kernel
theorem dMo_feed_77 : decode cMo_feed 77 = .ok (.iconst 0, 1) := by decide +kernel
theorem dMo_feed_78 : decode cMo_feed 78 = .ok (.ireturn, 1) := by decide +kernel
theorem dMo_feed_79 : decode cMo_feed 79 = .ok (.aload_n 0, 1) := by decide +kernel
theorem dMo_feed_80 : decode cMo_feed 80 = .ok (.getfield 43, 3) := by decide +kernel
theorem dMo_feed_83 : decode cMo_feed 83 = .ok (.bipush 120, 2) := by decide +kernel
theorem dMo_feed_85 : decode cMo_feed 85 = .ok (.if_icmp .ne 5, 3) := by decide +kernel
theorem dMo_feed_88 : decode cMo_feed 88 = .ok (.iconst (-1), 1) := by decide +kernel
theorem dMo_feed_89 : decode cMo_feed 89 = .ok (.ireturn, 1) := by decide +kernel
theorem dMo_feed_90 : decode cMo_feed 90 = .ok (.aload_n 0, 1) := by decide +kernel
theorem dMo_feed_91 : decode cMo_feed 91 = .ok (.getfield 17, 3) := by decide +kernel
theorem dMo_feed_94 : decode cMo_feed 94 = .ok (.aload_n 0, 1) := by decide +kernel
theorem dMo_feed_95 : decode cMo_feed 95 = .ok (.getfield 43, 3) := by decide +kernel
theorem dMo_feed_98 : decode cMo_feed 98 = .ok (.iload_n 1, 1) := by decide +kernel
theorem dMo_feed_99 : decode cMo_feed 99 = .ok (.iastore, 1) := by decide +kernel
theorem dMo_feed_100 : decode cMo_feed 100 = .ok (.aload_n 0, 1) := by decide +kernel
theorem dMo_feed_101 : decode cMo_feed 101 = .ok (.getfield 20, 3) := by decide +kernel
theorem dMo_feed_104 : decode cMo_feed 104 = .ok (.aload_n 0, 1) := by decide +kernel
theorem dMo_feed_105 : decode cMo_feed 105 = .ok (.getfield 43, 3) := by decide +kernel
theorem dMo_feed_108 : decode cMo_feed 108 = .ok (.iload_n 2, 1) := by decide +kernel
theorem dMo_feed_109 : decode cMo_feed 109 = .ok (.iastore, 1) := by decide +kernel
theorem dMo_feed_110 : decode cMo_feed 110 = .ok (.aload_n 0, 1) := by decide +kernel
theorem dMo_feed_111 : decode cMo_feed 111 = .ok (.dup, 1) := by decide +kernel
theorem dMo_feed_112 : decode cMo_feed 112 = .ok (.getfield 43, 3) := by decide +kernel
theorem dMo_feed_115 : decode cMo_feed 115 = .ok (.iconst 1, 1) := by decide +kernel
theorem dMo_feed_116 : decode cMo_feed 116 = .ok (.iadd, 1) := by decide +kernel
theorem dMo_feed_117 : decode cMo_feed 117 = .ok (.putfield 43, 3) := by decide +kernel
theorem dMo_feed_120 : decode cMo_feed 120 = .ok (.aload_n 0, 1) := by decide +kernel
theorem dMo_feed_121 : decode cMo_feed 121 = .ok (.getfield 43, 3) := by decide +kernel
theorem dMo_feed_124 : decode cMo_feed 124 = .ok (.ireturn, 1) := by decide +kernel
theorem dMo_fails_0 : decode cMo_fails 0 = .ok (.aload_n 0, 1) := by decide +kernel
theorem dMo_fails_1 : decode cMo_fails 1 = .ok (.iload_n 1, 1) := by decide +kernel
theorem dMo_fails_2 : decode cMo_fails 2 = .ok (.ifCond .eq 7, 3) := by decide +kernel
theorem dMo_fails_5 : decode cMo_fails 5 = .ok (.iload_n 2, 1) := by decide +kernel
theorem dMo_fails_6 : decode cMo_fails 6 = .ok (.goto 4, 3) := by decide +kernel
theorem dMo_fails_9 : decode cMo_fails 9 = .ok (.iconst 0, 1) := by decide +kernel
theorem dMo_fails_10 : decode cMo_fails 10 = .ok (.putfield 35, 3) := by decide +kernel
theorem dMo_fails_13 : decode cMo_fails 13 = .ok (.iload_n 1, 1) := by decide +kernel
theorem dMo_fails_14 : decode cMo_fails 14 = .ok (.ireturn, 1) := by decide +kernel
theorem dMo_compile_0 : decode cMo_compile 0 = .ok (.aload_n 0, 1) := by decide +kernel
theorem dMo_compile_1 : decode cMo_compile 1 = .ok (.iconst 0, 1) := by decide +kernel
theorem dMo_compile_2 : decode cMo_compile 2 = .ok (.putfield 35, 3) := by decide +kernel
theorem dMo_compile_5 : decode cMo_compile 5 = .ok (.aload_n 0, 1) := by decide +kernel
theorem dMo_compile_6 : decode cMo_compile 6 = .ok (.getfield 43, 3) := by decide +kernel
theorem dMo_compile_9 : decode cMo_compile 9 = .ok (.istore_n 1, 1) := by decide +kernel
theorem dMo_compile_10 : decode cMo_compile 10 = .ok (.aload_n 0, 1) := by decide +kernel
theorem dMo_compile_11 : decode cMo_compile 11 = .ok (.iconst 0, 1) := by decide +kernel
theorem dMo_compile_12 : decode cMo_compile 12 = .ok (.putfield 43, 3) := by decide +kernel
theorem dMo_compile_15 : decode cMo_compile 15 = .ok (.aload_n 0, 1) := by decide +kernel
theorem dMo_compile_16 : decode cMo_compile 16 = .ok (.iconst 0, 1) := by decide +kernel
theorem dMo_compile_17 : decode cMo_compile 17 = .ok (.putfield 110, 3) := by decide +kernel
theorem dMo_compile_20 : decode cMo_compile 20 = .ok (.aload_n 0, 1) := by decide +kernel
theorem dMo_compile_21 : decode cMo_compile 21 = .ok (.iconst 0, 1) := by decide +kernel
theorem dMo_compile_22 : decode cMo_compile 22 = .ok (.putfield 46, 3) := by decide +kernel
theorem dMo_compile_25 : decode cMo_compile 25 = .ok (.aload_n 0, 1) := by decide +kernel
theorem dMo_compile_26 : decode cMo_compile 26 = .ok (.iconst 0, 1) := by decide +kernel
theorem dMo_compile_27 : decode cMo_compile 27 = .ok (.putfield 49, 3) := by decide +kernel
theorem dMo_compile_30 : decode cMo_compile 30 = .ok (.aload_n 0, 1) := by decide +kernel
theorem dMo_compile_31 : decode cMo_compile 31 = .ok (.iconst 0, 1) := by decide +kernel
theorem dMo_compile_32 : decode cMo_compile 32 = .ok (.putfield 66, 3) := by decide +kernel
theorem dMo_compile_35 : decode cMo_compile 35 = .ok (.aload_n 0, 1) := by decide +kernel
theorem dMo_compile_36 : decode cMo_compile 36 = .ok (.iconst 0, 1) := by decide +kernel
theorem dMo_compile_37 : decode cMo_compile 37 = .ok (.putfield 60, 3) := by decide +kernel
theorem dMo_compile_40 : decode cMo_compile 40 = .ok (.aload_n 0, 1) := by decide +kernel
theorem dMo_compile_41 : decode cMo_compile 41 = .ok (.invokevirtual 114, 3) := by decide +kernel
theorem dMo_compile_44 : decode cMo_compile 44 = .ok (.iconst 0, 1) := by decide +kernel
theorem dMo_compile_45 : decode cMo_compile 45 = .ok (.istore_n 2, 1) := by decide +kernel
theorem dMo_compile_46 : decode cMo_compile 46 = .ok (.iload_n 2, 1) := by decide +kernel
theorem dMo_compile_47 : decode cMo_compile 47 = .ok (.iload_n 1, 1) := by decide +kernel
theorem dMo_compile_48 : decode cMo_compile 48 = .ok (.if_icmp .ge 17, 3) := by decide +kernel
theorem dMo_compile_51 : decode cMo_compile 51 = .ok (.aload_n 0, 1) := by decide +kernel
theorem dMo_compile_52 : decode cMo_compile 52 = .ok (.iload_n 2, 1) := by decide +kernel
theorem dMo_compile_53 : decode cMo_compile 53 = .ok (.invokevirtual 117, 3) := by decide +kernel
theorem dMo_compile_56 : decode cMo_compile 56 = .ok (.ifCond .eq 9, 3) := by decide +kernel
theorem dMo_compile_59 : decode cMo_compile 59 = .ok (.iinc 2 1, 3) := by decide +kernel
theorem dMo_compile_62 : decode cMo_compile 62 = .ok (.goto (-16), 3) := by decide +kernel
theorem dMo_compile_65 : decode cMo_compile 65 = .ok (.iload_n 2, 1) := by decide +kernel
theorem dMo_compile_66 : decode cMo_compile 66 = .ok (.iload_n 1, 1) := by decide +kernel
theorem dMo_compile_67 : decode cMo_compile 67 = .ok (.if_icmp .lt 18, 3) := by decide +kernel
theorem dMo_compile_70 : decode cMo_compile 70 = .ok (.aload_n 0, 1) := by decide +kernel
theorem dMo_compile_71 : decode cMo_compile 71 = .ok (.getfield 60, 3) := by decide +kernel
theorem dMo_compile_74 : decode cMo_compile 74 = .ok (.iconst 1, 1) := by decide +kernel
theorem dMo_compile_75 : decode cMo_compile 75 = .ok (.if_icmp .ne 10, 3) := by decide +kernel
theorem dMo_compile_78 : decode cMo_compile 78 = .ok (.aload_n 0, 1) := by decide +kernel
theorem dMo_compile_79 : decode cMo_compile 79 = .ok (.getfield 66, 3) := by decide +kernel
theorem dMo_compile_82 : decode cMo_compile 82 = .ok (.ifCond .le 12, 3) := by decide +kernel
theorem dMo_compile_85 : decode cMo_compile 85 = .ok (.aload_n 0, 1) := by decide +kernel
theorem dMo_compile_86 : decode cMo_compile 86 = .ok (.iconst 0, 1) := by decide +kernel
theorem dMo_compile_87 : decode cMo_compile 87 = .ok (.putfield 46, 3) := by decide +kernel
theorem dMo_compile_90 : decode cMo_compile 90 = .ok (.iconst 1, 1) := by decide +kernel
theorem dMo_compile_91 : decode cMo_compile 91 = .ok (.iload_n 2, 1) := by decide +kernel
theorem dMo_compile_92 : decode cMo_compile 92 = .ok (.iadd, 1) := by decide +kernel
theorem dMo_compile_93 : decode cMo_compile 93 = .ok (.ireturn, 1) := by decide +kernel
theorem dMo_compile_94 : decode cMo_compile 94 = .ok (.aload_n 0, 1) := by decide +kernel
theorem dMo_compile_95 : decode cMo_compile 95 = .ok (.iconst 1, 1) := by decide +kernel
theorem dMo_compile_96 : decode cMo_compile 96 = .ok (.invokevirtual 76, 3) := by decide +kernel
theorem dMo_compile_99 : decode cMo_compile 99 = .ok (.aload_n 0, 1) := by decide +kernel
theorem dMo_compile_100 : decode cMo_compile 100 = .ok (.invokevirtual 120, 3) := by decide +kernel
theorem dMo_compile_103 : decode cMo_compile 103 = .ok (.ifCond .ne 11, 3) := by decide +kernel
theorem dMo_compile_106 : decode cMo_compile 106 = .ok (.aload_n 0, 1) := by decide +kernel
theorem dMo_compile_107 : decode cMo_compile 107 = .ok (.iconst 0, 1) := by decide +kernel
theorem dMo_compile_108 : decode cMo_compile 108 = .ok (.putfield 46, 3) := by decide +kernel
theorem dMo_compile_111 : decode cMo_compile 111 = .ok (.bipush (-2), 2) := by decide +kernel
theorem dMo_compile_113 : decode cMo_compile 113 = .ok (.ireturn, 1) := by decide +kernel
theorem dMo_compile_114 : decode cMo_compile 114 = .ok (.aload_n 0, 1) := by decide +kernel
theorem dMo_compile_115 : decode cMo_compile 115 = .ok (.iconst 1, 1) := by decide +kernel
theorem dMo_compile_116 : decode cMo_compile 116 = .ok (.putfield 110, 3) := by decide +kernel
theorem dMo_compile_119 : decode cMo_compile 119 = .ok (.iconst 0, 1) := by decide +kernel
theorem dMo_compile_120 : decode cMo_compile 120 = .ok (.ireturn, 1) := by decide +kernel
theorem dMo_begin_0 : decode cMo_begin 0 = .ok (.aload_n 0, 1) := by decide +kernel
theorem dMo_begin_1 : decode cMo_begin 1 = .ok (.iconst 0, 1) := by decide +kernel
theorem dMo_begin_2 : decode cMo_begin 2 = .ok (.putfield 98, 3) := by decide +kernel
theorem dMo_begin_5 : decode cMo_begin 5 = .ok (.aload_n 0, 1) := by decide +kernel
theorem dMo_begin_6 : decode cMo_begin 6 = .ok (.iconst 0, 1) := by decide +kernel
theorem dMo_begin_7 : decode cMo_begin 7 = .ok (.putfield 101, 3) := by decide +kernel
theorem dMo_begin_10 : decode cMo_begin 10 = .ok (.aload_n 0, 1) := by decide +kernel
theorem dMo_begin_11 : decode cMo_begin 11 = .ok (.iconst 0, 1) := by decide +kernel
theorem dMo_begin_12 : decode cMo_begin 12 = .ok (.putfield 104, 3) := by decide +kernel
theorem dMo_begin_15 : decode cMo_begin 15 = .ok (.aload_n 0, 1) := by decide +kernel
theorem dMo_begin_16 : decode cMo_begin 16 = .ok (.iconst 0, 1) := by decide +kernel
theorem dMo_begin_17 : decode cMo_begin 17 = .ok (.putfield 107, 3) := by decide +kernel
theorem dMo_begin_20 : decode cMo_begin 20 = .ok (.return_, 1) := by decide +kernel
theorem dMo_stands_0 : decode cMo_stands 0 = .ok (.aload_n 0, 1) := by decide +kernel
theorem dMo_stands_1 : decode cMo_stands 1 = .ok (.getfield 60, 3) := by decide +kernel
theorem dMo_stands_4 : decode cMo_stands 4 = .ok (.ifCond .ne 20, 3) := by decide +kernel
theorem dMo_stands_7 : decode cMo_stands 7 = .ok (.aload_n 0, 1) := by decide +kernel
theorem dMo_stands_8 : decode cMo_stands 8 = .ok (.aload_n 0, 1) := by decide +kernel
theorem dMo_stands_9 : decode cMo_stands 9 = .ok (.getfield 17, 3) := by decide +kernel
theorem dMo_stands_12 : decode cMo_stands 12 = .ok (.iload_n 1, 1) := by decide +kernel
theorem dMo_stands_13 : decode cMo_stands 13 = .ok (.iaload, 1) := by decide +kernel
theorem dMo_stands_14 : decode cMo_stands 14 = .ok (.aload_n 0, 1) := by decide +kernel
theorem dMo_stands_15 : decode cMo_stands 15 = .ok (.getfield 20, 3) := by decide +kernel
theorem dMo_stands_18 : decode cMo_stands 18 = .ok (.iload_n 1, 1) := by decide +kernel
theorem dMo_stands_19 : decode cMo_stands 19 = .ok (.iaload, 1) := by decide +kernel
theorem dMo_stands_20 : decode cMo_stands 20 = .ok (.invokevirtual 87, 3) := by decide +kernel
theorem dMo_stands_23 : decode cMo_stands 23 = .ok (.ireturn, 1) := by decide +kernel
theorem dMo_stands_24 : decode cMo_stands 24 = .ok (.aload_n 0, 1) := by decide +kernel
theorem dMo_stands_25 : decode cMo_stands 25 = .ok (.getfield 60, 3) := by decide +kernel
theorem dMo_stands_28 : decode cMo_stands 28 = .ok (.iconst 1, 1) := by decide +kernel
theorem dMo_stands_29 : decode cMo_stands 29 = .ok (.if_icmp .ne 14, 3) := by decide +kernel
theorem dMo_stands_32 : decode cMo_stands 32 = .ok (.aload_n 0, 1) := by decide +kernel
theorem dMo_stands_33 : decode cMo_stands 33 = .ok (.aload_n 0, 1) := by decide +kernel
theorem dMo_stands_34 : decode cMo_stands 34 = .ok (.getfield 17, 3) := by decide +kernel
theorem dMo_stands_37 : decode cMo_stands 37 = .ok (.iload_n 1, 1) := by decide +kernel
theorem dMo_stands_38 : decode cMo_stands 38 = .ok (.iaload, 1) := by decide +kernel
theorem dMo_stands_39 : decode cMo_stands 39 = .ok (.invokevirtual 91, 3) := by decide +kernel
theorem dMo_stands_42 : decode cMo_stands 42 = .ok (.ireturn, 1) := by decide +kernel
theorem dMo_stands_43 : decode cMo_stands 43 = .ok (.aload_n 0, 1) := by decide +kernel
theorem dMo_stands_44 : decode cMo_stands 44 = .ok (.getfield 17, 3) := by decide +kernel
theorem dMo_stands_47 : decode cMo_stands 47 = .ok (.iload_n 1, 1) := by decide +kernel
theorem dMo_stands_48 : decode cMo_stands 48 = .ok (.iaload, 1) := by decide +kernel
theorem dMo_stands_49 : decode cMo_stands 49 = .ok (.bipush 8, 2) := by decide +kernel
theorem dMo_stands_51 : decode cMo_stands 51 = .ok (.if_icmp .eq 5, 3) := by decide +kernel
theorem dMo_stands_54 : decode cMo_stands 54 = .ok (.iconst 0, 1) := by decide +kernel
theorem dMo_stands_55 : decode cMo_stands 55 = .ok (.ireturn, 1) := by decide +kernel
theorem dMo_stands_56 : decode cMo_stands 56 = .ok (.aload_n 0, 1) := by decide +kernel
theorem dMo_stands_57 : decode cMo_stands 57 = .ok (.aload_n 0, 1) := by decide +kernel
theorem dMo_stands_58 : decode cMo_stands 58 = .ok (.getfield 69, 3) := by decide +kernel
theorem dMo_stands_61 : decode cMo_stands 61 = .ok (.aload_n 0, 1) := by decide +kernel
theorem dMo_stands_62 : decode cMo_stands 62 = .ok (.getfield 69, 3) := by decide +kernel
theorem dMo_stands_65 : decode cMo_stands 65 = .ok (.bipush 11, 2) := by decide +kernel
theorem dMo_stands_67 : decode cMo_stands 67 = .ok (.if_icmp .ne 7, 3) := by decide +kernel
theorem dMo_stands_70 : decode cMo_stands 70 = .ok (.iconst 1, 1) := by decide +kernel
theorem dMo_stands_71 : decode cMo_stands 71 = .ok (.goto 17, 3) := by decide +kernel
theorem dMo_stands_74 : decode cMo_stands 74 = .ok (.aload_n 0, 1) := by decide +kernel
theorem dMo_stands_75 : decode cMo_stands 75 = .ok (.getfield 69, 3) := by decide +kernel
theorem dMo_stands_78 : decode cMo_stands 78 = .ok (.bipush 12, 2) := by decide +kernel
theorem dMo_stands_80 : decode cMo_stands 80 = .ok (.if_icmp .ne 7, 3) := by decide +kernel
theorem dMo_stands_83 : decode cMo_stands 83 = .ok (.iconst 0, 1) := by decide +kernel
theorem dMo_stands_84 : decode cMo_stands 84 = .ok (.goto 4, 3) := by decide +kernel
theorem dMo_stands_87 : decode cMo_stands 87 = .ok (.iconst 2, 1) := by decide +kernel
theorem dMo_stands_88 : decode cMo_stands 88 = .ok (.invokevirtual 63, 3) := by decide +kernel
theorem dMo_stands_91 : decode cMo_stands 91 = .ok (.aload_n 0, 1) := by decide +kernel
theorem dMo_stands_92 : decode cMo_stands 92 = .ok (.dup, 1) := by decide +kernel
theorem dMo_stands_93 : decode cMo_stands 93 = .ok (.getfield 66, 3) := by decide +kernel
theorem dMo_stands_96 : decode cMo_stands 96 = .ok (.iconst 1, 1) := by decide +kernel
theorem dMo_stands_97 : decode cMo_stands 97 = .ok (.iadd, 1) := by decide +kernel
theorem dMo_stands_98 : decode cMo_stands 98 = .ok (.putfield 66, 3) := by decide +kernel
theorem dMo_stands_101 : decode cMo_stands 101 = .ok (.aload_n 0, 1) := by decide +kernel
theorem dMo_stands_102 : decode cMo_stands 102 = .ok (.iconst 0, 1) := by decide +kernel
theorem dMo_stands_103 : decode cMo_stands 103 = .ok (.putfield 60, 3) := by decide +kernel
theorem dMo_stands_106 : decode cMo_stands 106 = .ok (.iconst 1, 1) := by decide +kernel
theorem dMo_stands_107 : decode cMo_stands 107 = .ok (.ireturn, 1) := by decide +kernel
theorem dMo_begins_0 : decode cMo_begins 0 = .ok (.iload_n 1, 1) := by decide +kernel
theorem dMo_begins_1 : decode cMo_begins 1 = .ok (.iconst 2, 1) := by decide +kernel
theorem dMo_begins_2 : decode cMo_begins 2 = .ok (.if_icmp .ge 16, 3) := by decide +kernel
theorem dMo_begins_5 : decode cMo_begins 5 = .ok (.aload_n 0, 1) := by decide +kernel
theorem dMo_begins_6 : decode cMo_begins 6 = .ok (.iload_n 1, 1) := by decide +kernel
theorem dMo_begins_7 : decode cMo_begins 7 = .ok (.iload_n 2, 1) := by decide +kernel
theorem dMo_begins_8 : decode cMo_begins 8 = .ok (.invokevirtual 56, 3) := by decide +kernel
theorem dMo_begins_11 : decode cMo_begins 11 = .ok (.aload_n 0, 1) := by decide +kernel
theorem dMo_begins_12 : decode cMo_begins 12 = .ok (.iconst 1, 1) := by decide +kernel
theorem dMo_begins_13 : decode cMo_begins 13 = .ok (.putfield 60, 3) := by decide +kernel
theorem dMo_begins_16 : decode cMo_begins 16 = .ok (.iconst 1, 1) := by decide +kernel
theorem dMo_begins_17 : decode cMo_begins 17 = .ok (.ireturn, 1) := by decide +kernel
theorem dMo_begins_18 : decode cMo_begins 18 = .ok (.iload_n 1, 1) := by decide +kernel
theorem dMo_begins_19 : decode cMo_begins 19 = .ok (.iconst 3, 1) := by decide +kernel
theorem dMo_begins_20 : decode cMo_begins 20 = .ok (.if_icmp .ne 12, 3) := by decide +kernel
theorem dMo_begins_23 : decode cMo_begins 23 = .ok (.aload_n 0, 1) := by decide +kernel
theorem dMo_begins_24 : decode cMo_begins 24 = .ok (.bipush 14, 2) := by decide +kernel
theorem dMo_begins_26 : decode cMo_begins 26 = .ok (.iconst 0, 1) := by decide +kernel
theorem dMo_begins_27 : decode cMo_begins 27 = .ok (.invokevirtual 63, 3) := by decide +kernel
theorem dMo_begins_30 : decode cMo_begins 30 = .ok (.iconst 1, 1) := by decide +kernel
theorem dMo_begins_31 : decode cMo_begins 31 = .ok (.ireturn, 1) := by decide +kernel
theorem dMo_begins_32 : decode cMo_begins 32 = .ok (.iload_n 1, 1) := by decide +kernel
theorem dMo_begins_33 : decode cMo_begins 33 = .ok (.bipush 8, 2) := by decide +kernel
theorem dMo_begins_35 : decode cMo_begins 35 = .ok (.if_icmp .ne 22, 3) := by decide +kernel
theorem dMo_begins_38 : decode cMo_begins 38 = .ok (.aload_n 0, 1) := by decide +kernel
theorem dMo_begins_39 : decode cMo_begins 39 = .ok (.bipush 8, 2) := by decide +kernel
theorem dMo_begins_41 : decode cMo_begins 41 = .ok (.iconst 0, 1) := by decide +kernel
theorem dMo_begins_42 : decode cMo_begins 42 = .ok (.invokevirtual 63, 3) := by decide +kernel
theorem dMo_begins_45 : decode cMo_begins 45 = .ok (.aload_n 0, 1) := by decide +kernel
theorem dMo_begins_46 : decode cMo_begins 46 = .ok (.dup, 1) := by decide +kernel
theorem dMo_begins_47 : decode cMo_begins 47 = .ok (.getfield 66, 3) := by decide +kernel
theorem dMo_begins_50 : decode cMo_begins 50 = .ok (.iconst 1, 1) := by decide +kernel
theorem dMo_begins_51 : decode cMo_begins 51 = .ok (.iadd, 1) := by decide +kernel
theorem dMo_begins_52 : decode cMo_begins 52 = .ok (.putfield 66, 3) := by decide +kernel
theorem dMo_begins_55 : decode cMo_begins 55 = .ok (.iconst 1, 1) := by decide +kernel
theorem dMo_begins_56 : decode cMo_begins 56 = .ok (.ireturn, 1) := by decide +kernel
theorem dMo_begins_57 : decode cMo_begins 57 = .ok (.aload_n 0, 1) := by decide +kernel
theorem dMo_begins_58 : decode cMo_begins 58 = .ok (.iload_n 1, 1) := by decide +kernel
theorem dMo_begins_59 : decode cMo_begins 59 = .ok (.putfield 69, 3) := by decide +kernel
theorem dMo_begins_62 : decode cMo_begins 62 = .ok (.aload_n 0, 1) := by decide +kernel
theorem dMo_begins_63 : decode cMo_begins 63 = .ok (.iconst 2, 1) := by decide +kernel
theorem dMo_begins_64 : decode cMo_begins 64 = .ok (.putfield 60, 3) := by decide +kernel
theorem dMo_begins_67 : decode cMo_begins 67 = .ok (.iload_n 1, 1) := by decide +kernel
theorem dMo_begins_68 : decode cMo_begins 68 = .ok (.bipush 10, 2) := by decide +kernel
theorem dMo_begins_70 : decode cMo_begins 70 = .ok (.if_icmp .le 7, 3) := by decide +kernel
theorem dMo_begins_73 : decode cMo_begins 73 = .ok (.iconst 1, 1) := by decide +kernel
theorem dMo_begins_74 : decode cMo_begins 74 = .ok (.goto 4, 3) := by decide +kernel
theorem dMo_begins_77 : decode cMo_begins 77 = .ok (.iconst 0, 1) := by decide +kernel
theorem dMo_begins_78 : decode cMo_begins 78 = .ok (.ireturn, 1) := by decide +kernel
theorem dMo_emit_0 : decode cMo_emit 0 = .ok (.aload_n 0, 1) := by decide +kernel
theorem dMo_emit_1 : decode cMo_emit 1 = .ok (.getfield 23, 3) := by decide +kernel
theorem dMo_emit_4 : decode cMo_emit 4 = .ok (.aload_n 0, 1) := by decide +kernel
theorem dMo_emit_5 : decode cMo_emit 5 = .ok (.getfield 46, 3) := by decide +kernel
theorem dMo_emit_8 : decode cMo_emit 8 = .ok (.iload_n 1, 1) := by decide +kernel
theorem dMo_emit_9 : decode cMo_emit 9 = .ok (.iastore, 1) := by decide +kernel
theorem dMo_emit_10 : decode cMo_emit 10 = .ok (.aload_n 0, 1) := by decide +kernel
theorem dMo_emit_11 : decode cMo_emit 11 = .ok (.getfield 26, 3) := by decide +kernel
theorem dMo_emit_14 : decode cMo_emit 14 = .ok (.aload_n 0, 1) := by decide +kernel
theorem dMo_emit_15 : decode cMo_emit 15 = .ok (.getfield 46, 3) := by decide +kernel
theorem dMo_emit_18 : decode cMo_emit 18 = .ok (.iload_n 2, 1) := by decide +kernel
theorem dMo_emit_19 : decode cMo_emit 19 = .ok (.iastore, 1) := by decide +kernel
theorem dMo_emit_20 : decode cMo_emit 20 = .ok (.aload_n 0, 1) := by decide +kernel
theorem dMo_emit_21 : decode cMo_emit 21 = .ok (.dup, 1) := by decide +kernel
theorem dMo_emit_22 : decode cMo_emit 22 = .ok (.getfield 46, 3) := by decide +kernel
theorem dMo_emit_25 : decode cMo_emit 25 = .ok (.iconst 1, 1) := by decide +kernel
theorem dMo_emit_26 : decode cMo_emit 26 = .ok (.iadd, 1) := by decide +kernel
theorem dMo_emit_27 : decode cMo_emit 27 = .ok (.putfield 46, 3) := by decide +kernel
theorem dMo_emit_30 : decode cMo_emit 30 = .ok (.return_, 1) := by decide +kernel
theorem dMo_heap_0 : decode cMo_heap 0 = .ok (.aload_n 0, 1) := by decide +kernel
theorem dMo_heap_1 : decode cMo_heap 1 = .ok (.getfield 29, 3) := by decide +kernel
theorem dMo_heap_4 : decode cMo_heap 4 = .ok (.aload_n 0, 1) := by decide +kernel
theorem dMo_heap_5 : decode cMo_heap 5 = .ok (.getfield 49, 3) := by decide +kernel
theorem dMo_heap_8 : decode cMo_heap 8 = .ok (.iload_n 1, 1) := by decide +kernel
theorem dMo_heap_9 : decode cMo_heap 9 = .ok (.iastore, 1) := by decide +kernel
theorem dMo_heap_10 : decode cMo_heap 10 = .ok (.aload_n 0, 1) := by decide +kernel
theorem dMo_heap_11 : decode cMo_heap 11 = .ok (.getfield 32, 3) := by decide +kernel
theorem dMo_heap_14 : decode cMo_heap 14 = .ok (.aload_n 0, 1) := by decide +kernel
theorem dMo_heap_15 : decode cMo_heap 15 = .ok (.getfield 49, 3) := by decide +kernel
theorem dMo_heap_18 : decode cMo_heap 18 = .ok (.iload_n 2, 1) := by decide +kernel
theorem dMo_heap_19 : decode cMo_heap 19 = .ok (.iastore, 1) := by decide +kernel
theorem dMo_heap_20 : decode cMo_heap 20 = .ok (.aload_n 0, 1) := by decide +kernel
theorem dMo_heap_21 : decode cMo_heap 21 = .ok (.dup, 1) := by decide +kernel
theorem dMo_heap_22 : decode cMo_heap 22 = .ok (.getfield 49, 3) := by decide +kernel
theorem dMo_heap_25 : decode cMo_heap 25 = .ok (.iconst 1, 1) := by decide +kernel
theorem dMo_heap_26 : decode cMo_heap 26 = .ok (.iadd, 1) := by decide +kernel
theorem dMo_heap_27 : decode cMo_heap 27 = .ok (.putfield 49, 3) := by decide +kernel
theorem dMo_heap_30 : decode cMo_heap 30 = .ok (.return_, 1) := by decide +kernel
theorem dMo_follows_0 : decode cMo_follows 0 = .ok (.iload_n 1, 1) := by decide +kernel
theorem dMo_follows_1 : decode cMo_follows 1 = .ok (.bipush 9, 2) := by decide +kernel
theorem dMo_follows_3 : decode cMo_follows 3 = .ok (.if_icmp .ne 8, 3) := by decide +kernel
theorem dMo_follows_6 : decode cMo_follows 6 = .ok (.aload_n 0, 1) := by decide +kernel
theorem dMo_follows_7 : decode cMo_follows 7 = .ok (.invokevirtual 80, 3) := by decide +kernel
theorem dMo_follows_10 : decode cMo_follows 10 = .ok (.ireturn, 1) := by decide +kernel
theorem dMo_follows_11 : decode cMo_follows 11 = .ok (.iload_n 1, 1) := by decide +kernel
theorem dMo_follows_12 : decode cMo_follows 12 = .ok (.bipush 10, 2) := by decide +kernel
theorem dMo_follows_14 : decode cMo_follows 14 = .ok (.if_icmp .ne 8, 3) := by decide +kernel
theorem dMo_follows_17 : decode cMo_follows 17 = .ok (.aload_n 0, 1) := by decide +kernel
theorem dMo_follows_18 : decode cMo_follows 18 = .ok (.invokevirtual 84, 3) := by decide +kernel
theorem dMo_follows_21 : decode cMo_follows 21 = .ok (.ireturn, 1) := by decide +kernel
theorem dMo_follows_22 : decode cMo_follows 22 = .ok (.iload_n 1, 1) := by decide +kernel
theorem dMo_follows_23 : decode cMo_follows 23 = .ok (.iconst 2, 1) := by decide +kernel
theorem dMo_follows_24 : decode cMo_follows 24 = .ok (.if_icmp .lt 9, 3) := by decide +kernel
theorem dMo_follows_27 : decode cMo_follows 27 = .ok (.iload_n 1, 1) := by decide +kernel
theorem dMo_follows_28 : decode cMo_follows 28 = .ok (.bipush 7, 2) := by decide +kernel
theorem dMo_follows_30 : decode cMo_follows 30 = .ok (.if_icmp .le 5, 3) := by decide +kernel
theorem dMo_follows_33 : decode cMo_follows 33 = .ok (.iconst 0, 1) := by decide +kernel
theorem dMo_follows_34 : decode cMo_follows 34 = .ok (.ireturn, 1) := by decide +kernel
theorem dMo_follows_35 : decode cMo_follows 35 = .ok (.aload_n 0, 1) := by decide +kernel
theorem dMo_follows_36 : decode cMo_follows 36 = .ok (.iload_n 1, 1) := by decide +kernel
theorem dMo_follows_37 : decode cMo_follows 37 = .ok (.bipush 7, 2) := by decide +kernel
theorem dMo_follows_39 : decode cMo_follows 39 = .ok (.if_icmp .ne 7, 3) := by decide +kernel
theorem dMo_follows_42 : decode cMo_follows 42 = .ok (.iconst 5, 1) := by decide +kernel
theorem dMo_follows_43 : decode cMo_follows 43 = .ok (.goto 7, 3) := by decide +kernel
theorem dMo_follows_46 : decode cMo_follows 46 = .ok (.iload_n 1, 1) := by decide +kernel
theorem dMo_follows_47 : decode cMo_follows 47 = .ok (.invokestatic 52, 3) := by decide +kernel
theorem dMo_follows_50 : decode cMo_follows 50 = .ok (.invokevirtual 76, 3) := by decide +kernel
theorem dMo_follows_53 : decode cMo_follows 53 = .ok (.aload_n 0, 1) := by decide +kernel
theorem dMo_follows_54 : decode cMo_follows 54 = .ok (.iload_n 1, 1) := by decide +kernel
theorem dMo_follows_55 : decode cMo_follows 55 = .ok (.iconst 0, 1) := by decide +kernel
theorem dMo_follows_56 : decode cMo_follows 56 = .ok (.invokevirtual 63, 3) := by decide +kernel
theorem dMo_follows_59 : decode cMo_follows 59 = .ok (.aload_n 0, 1) := by decide +kernel
theorem dMo_follows_60 : decode cMo_follows 60 = .ok (.iconst 0, 1) := by decide +kernel
theorem dMo_follows_61 : decode cMo_follows 61 = .ok (.putfield 60, 3) := by decide +kernel
theorem dMo_follows_64 : decode cMo_follows 64 = .ok (.iconst 1, 1) := by decide +kernel
theorem dMo_follows_65 : decode cMo_follows 65 = .ok (.ireturn, 1) := by decide +kernel
theorem dMo_closes_0 : decode cMo_closes 0 = .ok (.aload_n 0, 1) := by decide +kernel
theorem dMo_closes_1 : decode cMo_closes 1 = .ok (.invokevirtual 72, 3) := by decide +kernel
theorem dMo_closes_4 : decode cMo_closes 4 = .ok (.istore_n 1, 1) := by decide +kernel
theorem dMo_closes_5 : decode cMo_closes 5 = .ok (.iload_n 1, 1) := by decide +kernel
theorem dMo_closes_6 : decode cMo_closes 6 = .ok (.ifCond .lt 12, 3) := by decide +kernel
theorem dMo_closes_9 : decode cMo_closes 9 = .ok (.aload_n 0, 1) := by decide +kernel
theorem dMo_closes_10 : decode cMo_closes 10 = .ok (.getfield 32, 3) := by decide +kernel
theorem dMo_closes_13 : decode cMo_closes 13 = .ok (.iload_n 1, 1) := by decide +kernel
theorem dMo_closes_14 : decode cMo_closes 14 = .ok (.iaload, 1) := by decide +kernel
theorem dMo_closes_15 : decode cMo_closes 15 = .ok (.ifCond .le 5, 3) := by decide +kernel
theorem dMo_closes_18 : decode cMo_closes 18 = .ok (.iconst 0, 1) := by decide +kernel
theorem dMo_closes_19 : decode cMo_closes 19 = .ok (.ireturn, 1) := by decide +kernel
theorem dMo_closes_20 : decode cMo_closes 20 = .ok (.aload_n 0, 1) := by decide +kernel
theorem dMo_closes_21 : decode cMo_closes 21 = .ok (.iconst 1, 1) := by decide +kernel
theorem dMo_closes_22 : decode cMo_closes 22 = .ok (.invokevirtual 76, 3) := by decide +kernel
theorem dMo_closes_25 : decode cMo_closes 25 = .ok (.aload_n 0, 1) := by decide +kernel
theorem dMo_closes_26 : decode cMo_closes 26 = .ok (.dup, 1) := by decide +kernel
theorem dMo_closes_27 : decode cMo_closes 27 = .ok (.getfield 49, 3) := by decide +kernel
theorem dMo_closes_30 : decode cMo_closes 30 = .ok (.iconst 1, 1) := by decide +kernel
theorem dMo_closes_31 : decode cMo_closes 31 = .ok (.isub, 1) := by decide +kernel
theorem dMo_closes_32 : decode cMo_closes 32 = .ok (.putfield 49, 3) := by decide +kernel
theorem dMo_closes_35 : decode cMo_closes 35 = .ok (.aload_n 0, 1) := by decide +kernel
theorem dMo_closes_36 : decode cMo_closes 36 = .ok (.dup, 1) := by decide +kernel
theorem dMo_closes_37 : decode cMo_closes 37 = .ok (.getfield 66, 3) := by decide +kernel
theorem dMo_closes_40 : decode cMo_closes 40 = .ok (.iconst 1, 1) := by decide +kernel
theorem dMo_closes_41 : decode cMo_closes 41 = .ok (.isub, 1) := by decide +kernel
theorem dMo_closes_42 : decode cMo_closes 42 = .ok (.putfield 66, 3) := by decide +kernel
theorem dMo_closes_45 : decode cMo_closes 45 = .ok (.aload_n 0, 1) := by decide +kernel
theorem dMo_closes_46 : decode cMo_closes 46 = .ok (.getfield 29, 3) := by decide +kernel
theorem dMo_closes_49 : decode cMo_closes 49 = .ok (.aload_n 0, 1) := by decide +kernel
theorem dMo_closes_50 : decode cMo_closes 50 = .ok (.getfield 49, 3) := by decide +kernel
theorem dMo_closes_53 : decode cMo_closes 53 = .ok (.iaload, 1) := by decide +kernel
theorem dMo_closes_54 : decode cMo_closes 54 = .ok (.bipush 8, 2) := by decide +kernel
theorem dMo_closes_56 : decode cMo_closes 56 = .ok (.if_icmp .eq 17, 3) := by decide +kernel
theorem dMo_closes_59 : decode cMo_closes 59 = .ok (.aload_n 0, 1) := by decide +kernel
theorem dMo_closes_60 : decode cMo_closes 60 = .ok (.aload_n 0, 1) := by decide +kernel
theorem dMo_closes_61 : decode cMo_closes 61 = .ok (.getfield 29, 3) := by decide +kernel
theorem dMo_closes_64 : decode cMo_closes 64 = .ok (.aload_n 0, 1) := by decide +kernel
theorem dMo_closes_65 : decode cMo_closes 65 = .ok (.getfield 49, 3) := by decide +kernel
theorem dMo_closes_68 : decode cMo_closes 68 = .ok (.iaload, 1) := by decide +kernel
theorem dMo_closes_69 : decode cMo_closes 69 = .ok (.iconst 0, 1) := by decide +kernel
theorem dMo_closes_70 : decode cMo_closes 70 = .ok (.invokevirtual 56, 3) := by decide +kernel
theorem dMo_closes_73 : decode cMo_closes 73 = .ok (.iconst 1, 1) := by decide +kernel
theorem dMo_closes_74 : decode cMo_closes 74 = .ok (.ireturn, 1) := by decide +kernel
theorem dMo_opening_0 : decode cMo_opening 0 = .ok (.aload_n 0, 1) := by decide +kernel
theorem dMo_opening_1 : decode cMo_opening 1 = .ok (.getfield 49, 3) := by decide +kernel
theorem dMo_opening_4 : decode cMo_opening 4 = .ok (.iconst 1, 1) := by decide +kernel
theorem dMo_opening_5 : decode cMo_opening 5 = .ok (.isub, 1) := by decide +kernel
theorem dMo_opening_6 : decode cMo_opening 6 = .ok (.istore_n 1, 1) := by decide +kernel
theorem dMo_opening_7 : decode cMo_opening 7 = .ok (.iload_n 1, 1) := by decide +kernel
theorem dMo_opening_8 : decode cMo_opening 8 = .ok (.ifCond .lt 21, 3) := by decide +kernel
theorem dMo_opening_11 : decode cMo_opening 11 = .ok (.aload_n 0, 1) := by decide +kernel
theorem dMo_opening_12 : decode cMo_opening 12 = .ok (.getfield 29, 3) := by decide +kernel
theorem dMo_opening_15 : decode cMo_opening 15 = .ok (.iload_n 1, 1) := by decide +kernel
theorem dMo_opening_16 : decode cMo_opening 16 = .ok (.iaload, 1) := by decide +kernel
theorem dMo_opening_17 : decode cMo_opening 17 = .ok (.invokestatic 52, 3) := by decide +kernel
theorem dMo_opening_20 : decode cMo_opening 20 = .ok (.ifCond .le 9, 3) := by decide +kernel
theorem dMo_opening_23 : decode cMo_opening 23 = .ok (.iinc 1 (-1), 3) := by decide +kernel
theorem dMo_opening_26 : decode cMo_opening 26 = .ok (.goto (-19), 3) := by decide +kernel
theorem dMo_opening_29 : decode cMo_opening 29 = .ok (.iload_n 1, 1) := by decide +kernel
theorem dMo_opening_30 : decode cMo_opening 30 = .ok (.ireturn, 1) := by decide +kernel
theorem dMo_bond_0 : decode cMo_bond 0 = .ok (.iload_n 0, 1) := by decide +kernel
theorem dMo_bond_1 : decode cMo_bond 1 = .ok (.tableswitch 75 2 14 #[67, 67, 69, 69, 69, 73, 75, 75, 75, 75, 75, 75, 71], 67) := by decide +kernel
theorem dMo_bond_68 : decode cMo_bond 68 = .ok (.iconst 1, 1) := by decide +kernel
theorem dMo_bond_69 : decode cMo_bond 69 = .ok (.ireturn, 1) := by decide +kernel
theorem dMo_bond_70 : decode cMo_bond 70 = .ok (.iconst 2, 1) := by decide +kernel
theorem dMo_bond_71 : decode cMo_bond 71 = .ok (.ireturn, 1) := by decide +kernel
theorem dMo_bond_72 : decode cMo_bond 72 = .ok (.iconst 3, 1) := by decide +kernel
theorem dMo_bond_73 : decode cMo_bond 73 = .ok (.ireturn, 1) := by decide +kernel
theorem dMo_bond_74 : decode cMo_bond 74 = .ok (.iconst 4, 1) := by decide +kernel
theorem dMo_bond_75 : decode cMo_bond 75 = .ok (.ireturn, 1) := by decide +kernel
theorem dMo_bond_76 : decode cMo_bond 76 = .ok (.iconst 0, 1) := by decide +kernel
theorem dMo_bond_77 : decode cMo_bond 77 = .ok (.ireturn, 1) := by decide +kernel
theorem dMo_unload_0 : decode cMo_unload 0 = .ok (.aload_n 0, 1) := by decide +kernel
theorem dMo_unload_1 : decode cMo_unload 1 = .ok (.getfield 49, 3) := by decide +kernel
theorem dMo_unload_4 : decode cMo_unload 4 = .ok (.ifCond .le 48, 3) := by decide +kernel
theorem dMo_unload_7 : decode cMo_unload 7 = .ok (.aload_n 0, 1) := by decide +kernel
theorem dMo_unload_8 : decode cMo_unload 8 = .ok (.getfield 29, 3) := by decide +kernel
theorem dMo_unload_11 : decode cMo_unload 11 = .ok (.aload_n 0, 1) := by decide +kernel
theorem dMo_unload_12 : decode cMo_unload 12 = .ok (.getfield 49, 3) := by decide +kernel
theorem dMo_unload_15 : decode cMo_unload 15 = .ok (.iconst 1, 1) := by decide +kernel
theorem dMo_unload_16 : decode cMo_unload 16 = .ok (.isub, 1) := by decide +kernel
theorem dMo_unload_17 : decode cMo_unload 17 = .ok (.iaload, 1) := by decide +kernel
theorem dMo_unload_18 : decode cMo_unload 18 = .ok (.invokestatic 52, 3) := by decide +kernel
theorem dMo_unload_21 : decode cMo_unload 21 = .ok (.iload_n 1, 1) := by decide +kernel
theorem dMo_unload_22 : decode cMo_unload 22 = .ok (.if_icmp .lt 30, 3) := by decide +kernel
theorem dMo_unload_25 : decode cMo_unload 25 = .ok (.aload_n 0, 1) := by decide +kernel
theorem dMo_unload_26 : decode cMo_unload 26 = .ok (.dup, 1) := by decide +kernel
theorem dMo_unload_27 : decode cMo_unload 27 = .ok (.getfield 49, 3) := by decide +kernel
theorem dMo_unload_30 : decode cMo_unload 30 = .ok (.iconst 1, 1) := by decide +kernel
theorem dMo_unload_31 : decode cMo_unload 31 = .ok (.isub, 1) := by decide +kernel
theorem dMo_unload_32 : decode cMo_unload 32 = .ok (.putfield 49, 3) := by decide +kernel
theorem dMo_unload_35 : decode cMo_unload 35 = .ok (.aload_n 0, 1) := by decide +kernel
theorem dMo_unload_36 : decode cMo_unload 36 = .ok (.aload_n 0, 1) := by decide +kernel
theorem dMo_unload_37 : decode cMo_unload 37 = .ok (.getfield 29, 3) := by decide +kernel
theorem dMo_unload_40 : decode cMo_unload 40 = .ok (.aload_n 0, 1) := by decide +kernel
theorem dMo_unload_41 : decode cMo_unload 41 = .ok (.getfield 49, 3) := by decide +kernel
theorem dMo_unload_44 : decode cMo_unload 44 = .ok (.iaload, 1) := by decide +kernel
theorem dMo_unload_45 : decode cMo_unload 45 = .ok (.iconst 0, 1) := by decide +kernel
theorem dMo_unload_46 : decode cMo_unload 46 = .ok (.invokevirtual 56, 3) := by decide +kernel
theorem dMo_unload_49 : decode cMo_unload 49 = .ok (.goto (-49), 3) := by decide +kernel
theorem dMo_unload_52 : decode cMo_unload 52 = .ok (.return_, 1) := by decide +kernel
theorem dMo_parts_0 : decode cMo_parts 0 = .ok (.aload_n 0, 1) := by decide +kernel
theorem dMo_parts_1 : decode cMo_parts 1 = .ok (.invokevirtual 72, 3) := by decide +kernel
theorem dMo_parts_4 : decode cMo_parts 4 = .ok (.istore_n 1, 1) := by decide +kernel
theorem dMo_parts_5 : decode cMo_parts 5 = .ok (.iload_n 1, 1) := by decide +kernel
theorem dMo_parts_6 : decode cMo_parts 6 = .ok (.ifCond .lt 12, 3) := by decide +kernel
theorem dMo_parts_9 : decode cMo_parts 9 = .ok (.aload_n 0, 1) := by decide +kernel
theorem dMo_parts_10 : decode cMo_parts 10 = .ok (.getfield 32, 3) := by decide +kernel
theorem dMo_parts_13 : decode cMo_parts 13 = .ok (.iload_n 1, 1) := by decide +kernel
theorem dMo_parts_14 : decode cMo_parts 14 = .ok (.iaload, 1) := by decide +kernel
theorem dMo_parts_15 : decode cMo_parts 15 = .ok (.ifCond .ne 5, 3) := by decide +kernel
theorem dMo_parts_18 : decode cMo_parts 18 = .ok (.iconst 0, 1) := by decide +kernel
theorem dMo_parts_19 : decode cMo_parts 19 = .ok (.ireturn, 1) := by decide +kernel
theorem dMo_parts_20 : decode cMo_parts 20 = .ok (.aload_n 0, 1) := by decide +kernel
theorem dMo_parts_21 : decode cMo_parts 21 = .ok (.iconst 1, 1) := by decide +kernel
theorem dMo_parts_22 : decode cMo_parts 22 = .ok (.invokevirtual 76, 3) := by decide +kernel
theorem dMo_parts_25 : decode cMo_parts 25 = .ok (.aload_n 0, 1) := by decide +kernel
theorem dMo_parts_26 : decode cMo_parts 26 = .ok (.getfield 32, 3) := by decide +kernel
theorem dMo_parts_29 : decode cMo_parts 29 = .ok (.iload_n 1, 1) := by decide +kernel
theorem dMo_parts_30 : decode cMo_parts 30 = .ok (.dup2, 1) := by decide +kernel
theorem dMo_parts_31 : decode cMo_parts 31 = .ok (.iaload, 1) := by decide +kernel
theorem dMo_parts_32 : decode cMo_parts 32 = .ok (.iconst 1, 1) := by decide +kernel
theorem dMo_parts_33 : decode cMo_parts 33 = .ok (.isub, 1) := by decide +kernel
theorem dMo_parts_34 : decode cMo_parts 34 = .ok (.iastore, 1) := by decide +kernel
theorem dMo_parts_35 : decode cMo_parts 35 = .ok (.aload_n 0, 1) := by decide +kernel
theorem dMo_parts_36 : decode cMo_parts 36 = .ok (.iconst 0, 1) := by decide +kernel
theorem dMo_parts_37 : decode cMo_parts 37 = .ok (.putfield 60, 3) := by decide +kernel
theorem dMo_parts_40 : decode cMo_parts 40 = .ok (.iconst 1, 1) := by decide +kernel
theorem dMo_parts_41 : decode cMo_parts 41 = .ok (.ireturn, 1) := by decide +kernel
theorem dMo_hasRegisters_0 : decode cMo_hasRegisters 0 = .ok (.iconst 0, 1) := by decide +kernel
theorem dMo_hasRegisters_1 : decode cMo_hasRegisters 1 = .ok (.istore_n 1, 1) := by decide +kernel
theorem dMo_hasRegisters_2 : decode cMo_hasRegisters 2 = .ok (.iconst 1, 1) := by decide +kernel
theorem dMo_hasRegisters_3 : decode cMo_hasRegisters 3 = .ok (.istore_n 2, 1) := by decide +kernel
theorem dMo_hasRegisters_4 : decode cMo_hasRegisters 4 = .ok (.iconst 0, 1) := by decide +kernel
theorem dMo_hasRegisters_5 : decode cMo_hasRegisters 5 = .ok (.istore_n 3, 1) := by decide +kernel
theorem dMo_hasRegisters_6 : decode cMo_hasRegisters 6 = .ok (.iload_n 3, 1) := by decide +kernel
theorem dMo_hasRegisters_7 : decode cMo_hasRegisters 7 = .ok (.aload_n 0, 1) := by decide +kernel
theorem dMo_hasRegisters_8 : decode cMo_hasRegisters 8 = .ok (.getfield 46, 3) := by decide +kernel
theorem dMo_hasRegisters_11 : decode cMo_hasRegisters 11 = .ok (.if_icmp .ge 39, 3) := by decide +kernel
theorem dMo_hasRegisters_14 : decode cMo_hasRegisters 14 = .ok (.iload_n 1, 1) := by decide +kernel
theorem dMo_hasRegisters_15 : decode cMo_hasRegisters 15 = .ok (.iconst 1, 1) := by decide +kernel
theorem dMo_hasRegisters_16 : decode cMo_hasRegisters 16 = .ok (.iadd, 1) := by decide +kernel
theorem dMo_hasRegisters_17 : decode cMo_hasRegisters 17 = .ok (.aload_n 0, 1) := by decide +kernel
theorem dMo_hasRegisters_18 : decode cMo_hasRegisters 18 = .ok (.getfield 23, 3) := by decide +kernel
theorem dMo_hasRegisters_21 : decode cMo_hasRegisters 21 = .ok (.iload_n 3, 1) := by decide +kernel
theorem dMo_hasRegisters_22 : decode cMo_hasRegisters 22 = .ok (.iaload, 1) := by decide +kernel
theorem dMo_hasRegisters_23 : decode cMo_hasRegisters 23 = .ok (.invokestatic 95, 3) := by decide +kernel
theorem dMo_hasRegisters_26 : decode cMo_hasRegisters 26 = .ok (.isub, 1) := by decide +kernel
theorem dMo_hasRegisters_27 : decode cMo_hasRegisters 27 = .ok (.istore_n 1, 1) := by decide +kernel
theorem dMo_hasRegisters_28 : decode cMo_hasRegisters 28 = .ok (.iload_n 2, 1) := by decide +kernel
theorem dMo_hasRegisters_29 : decode cMo_hasRegisters 29 = .ok (.ifCond .eq 13, 3) := by decide +kernel
theorem dMo_hasRegisters_32 : decode cMo_hasRegisters 32 = .ok (.iload_n 1, 1) := by decide +kernel
theorem dMo_hasRegisters_33 : decode cMo_hasRegisters 33 = .ok (.bipush 10, 2) := by decide +kernel
theorem dMo_hasRegisters_35 : decode cMo_hasRegisters 35 = .ok (.if_icmp .gt 7, 3) := by decide +kernel
theorem dMo_hasRegisters_38 : decode cMo_hasRegisters 38 = .ok (.iconst 1, 1) := by decide +kernel
theorem dMo_hasRegisters_39 : decode cMo_hasRegisters 39 = .ok (.goto 4, 3) := by decide +kernel
theorem dMo_hasRegisters_42 : decode cMo_hasRegisters 42 = .ok (.iconst 0, 1) := by decide +kernel
theorem dMo_hasRegisters_43 : decode cMo_hasRegisters 43 = .ok (.istore_n 2, 1) := by decide +kernel
theorem dMo_hasRegisters_44 : decode cMo_hasRegisters 44 = .ok (.iinc 3 1, 3) := by decide +kernel
theorem dMo_hasRegisters_47 : decode cMo_hasRegisters 47 = .ok (.goto (-41), 3) := by decide +kernel
theorem dMo_hasRegisters_50 : decode cMo_hasRegisters 50 = .ok (.iload_n 2, 1) := by decide +kernel
theorem dMo_hasRegisters_51 : decode cMo_hasRegisters 51 = .ok (.ireturn, 1) := by decide +kernel
theorem dMo_takes_0 : decode cMo_takes 0 = .ok (.iload_n 0, 1) := by decide +kernel
theorem dMo_takes_1 : decode cMo_takes 1 = .ok (.iconst 2, 1) := by decide +kernel
theorem dMo_takes_2 : decode cMo_takes 2 = .ok (.if_icmp .ge 7, 3) := by decide +kernel
theorem dMo_takes_5 : decode cMo_takes 5 = .ok (.iconst 0, 1) := by decide +kernel
theorem dMo_takes_6 : decode cMo_takes 6 = .ok (.goto 30, 3) := by decide +kernel
theorem dMo_takes_9 : decode cMo_takes 9 = .ok (.iload_n 0, 1) := by decide +kernel
theorem dMo_takes_10 : decode cMo_takes 10 = .ok (.bipush 12, 2) := by decide +kernel
theorem dMo_takes_12 : decode cMo_takes 12 = .ok (.if_icmp .eq 9, 3) := by decide +kernel
theorem dMo_takes_15 : decode cMo_takes 15 = .ok (.iload_n 0, 1) := by decide +kernel
theorem dMo_takes_16 : decode cMo_takes 16 = .ok (.bipush 14, 2) := by decide +kernel
theorem dMo_takes_18 : decode cMo_takes 18 = .ok (.if_icmp .ne 7, 3) := by decide +kernel
theorem dMo_takes_21 : decode cMo_takes 21 = .ok (.iconst 1, 1) := by decide +kernel
theorem dMo_takes_22 : decode cMo_takes 22 = .ok (.goto 14, 3) := by decide +kernel
theorem dMo_takes_25 : decode cMo_takes 25 = .ok (.iload_n 0, 1) := by decide +kernel
theorem dMo_takes_26 : decode cMo_takes 26 = .ok (.bipush 13, 2) := by decide +kernel
theorem dMo_takes_28 : decode cMo_takes 28 = .ok (.if_icmp .ne 7, 3) := by decide +kernel
theorem dMo_takes_31 : decode cMo_takes 31 = .ok (.iconst 3, 1) := by decide +kernel
theorem dMo_takes_32 : decode cMo_takes 32 = .ok (.goto 4, 3) := by decide +kernel
theorem dMo_takes_35 : decode cMo_takes 35 = .ok (.iconst 2, 1) := by decide +kernel
theorem dMo_takes_36 : decode cMo_takes 36 = .ok (.ireturn, 1) := by decide +kernel
theorem dMo_set_0 : decode cMo_set 0 = .ok (.aload_n 0, 1) := by decide +kernel
theorem dMo_set_1 : decode cMo_set 1 = .ok (.iload_n 1, 1) := by decide +kernel
theorem dMo_set_2 : decode cMo_set 2 = .ok (.ifCond .lt 9, 3) := by decide +kernel
theorem dMo_set_5 : decode cMo_set 5 = .ok (.iload_n 1, 1) := by decide +kernel
theorem dMo_set_6 : decode cMo_set 6 = .ok (.bipush 7, 2) := by decide +kernel
theorem dMo_set_8 : decode cMo_set 8 = .ok (.if_icmp .le 7, 3) := by decide +kernel
theorem dMo_set_11 : decode cMo_set 11 = .ok (.iconst 1, 1) := by decide +kernel
theorem dMo_set_12 : decode cMo_set 12 = .ok (.goto 4, 3) := by decide +kernel
theorem dMo_set_15 : decode cMo_set 15 = .ok (.iconst 0, 1) := by decide +kernel
theorem dMo_set_16 : decode cMo_set 16 = .ok (.iconst 1, 1) := by decide +kernel
theorem dMo_set_17 : decode cMo_set 17 = .ok (.invokevirtual 39, 3) := by decide +kernel
theorem dMo_set_20 : decode cMo_set 20 = .ok (.ifCond .eq 4, 3) := by decide +kernel
theorem dMo_set_23 : decode cMo_set 23 = .ok (.return_, 1) := by decide +kernel
theorem dMo_set_24 : decode cMo_set 24 = .ok (.bipush 10, 2) := by decide +kernel
theorem dMo_set_26 : decode cMo_set 26 = .ok (.iload_n 1, 1) := by decide +kernel
theorem dMo_set_27 : decode cMo_set 27 = .ok (.iadd, 1) := by decide +kernel
theorem dMo_set_28 : decode cMo_set 28 = .ok (.istore 4, 2) := by decide +kernel
theorem dMo_set_30 : decode cMo_set 30 = .ok (.aload_n 0, 1) := by decide +kernel
theorem dMo_set_31 : decode cMo_set 31 = .ok (.iload 4, 2) := by decide +kernel
theorem dMo_set_33 : decode cMo_set 33 = .ok (.invokevirtual 125, 3) := by decide +kernel
theorem dMo_set_36 : decode cMo_set 36 = .ok (.lload_n 2, 1) := by decide +kernel
theorem dMo_set_37 : decode cMo_set 37 = .ok (.lconst 0, 1) := by decide +kernel
theorem dMo_set_38 : decode cMo_set 38 = .ok (.lcmp, 1) := by decide +kernel
theorem dMo_set_39 : decode cMo_set 39 = .ok (.ifCond .ge 8, 3) := by decide +kernel
theorem dMo_set_42 : decode cMo_set 42 = .ok (.lload_n 2, 1) := by decide +kernel
theorem dMo_set_43 : decode cMo_set 43 = .ok (.lneg, 1) := by decide +kernel
theorem dMo_set_44 : decode cMo_set 44 = .ok (.goto 4, 3) := by decide +kernel
theorem dMo_set_47 : decode cMo_set 47 = .ok (.lload_n 2, 1) := by decide +kernel
theorem dMo_set_48 : decode cMo_set 48 = .ok (.lstore 5, 2) := by decide +kernel
theorem dMo_set_50 : decode cMo_set 50 = .ok (.aload_n 0, 1) := by decide +kernel
theorem dMo_set_51 : decode cMo_set 51 = .ok (.getfield 7, 3) := by decide +kernel
theorem dMo_set_54 : decode cMo_set 54 = .ok (.bipush 64, 2) := by decide +kernel
theorem dMo_set_56 : decode cMo_set 56 = .ok (.iload 4, 2) := by decide +kernel
theorem dMo_set_58 : decode cMo_set 58 = .ok (.imul, 1) := by decide +kernel
theorem dMo_set_59 : decode cMo_set 59 = .ok (.lload 5, 2) := by decide +kernel
theorem dMo_set_61 : decode cMo_set 61 = .ok (.ldc2_w 123, 3) := by decide +kernel
theorem dMo_set_64 : decode cMo_set 64 = .ok (.land, 1) := by decide +kernel
theorem dMo_set_65 : decode cMo_set 65 = .ok (.lastore, 1) := by decide +kernel
theorem dMo_set_66 : decode cMo_set 66 = .ok (.aload_n 0, 1) := by decide +kernel
theorem dMo_set_67 : decode cMo_set 67 = .ok (.getfield 7, 3) := by decide +kernel
theorem dMo_set_70 : decode cMo_set 70 = .ok (.bipush 64, 2) := by decide +kernel
theorem dMo_set_72 : decode cMo_set 72 = .ok (.iload 4, 2) := by decide +kernel
theorem dMo_set_74 : decode cMo_set 74 = .ok (.imul, 1) := by decide +kernel
theorem dMo_set_75 : decode cMo_set 75 = .ok (.iconst 1, 1) := by decide +kernel
theorem dMo_set_76 : decode cMo_set 76 = .ok (.iadd, 1) := by decide +kernel
theorem dMo_set_77 : decode cMo_set 77 = .ok (.lload 5, 2) := by decide +kernel
theorem dMo_set_79 : decode cMo_set 79 = .ok (.bipush 24, 2) := by decide +kernel
theorem dMo_set_81 : decode cMo_set 81 = .ok (.lushr, 1) := by decide +kernel
theorem dMo_set_82 : decode cMo_set 82 = .ok (.ldc2_w 123, 3) := by decide +kernel
theorem dMo_set_85 : decode cMo_set 85 = .ok (.land, 1) := by decide +kernel
theorem dMo_set_86 : decode cMo_set 86 = .ok (.lastore, 1) := by decide +kernel
theorem dMo_set_87 : decode cMo_set 87 = .ok (.aload_n 0, 1) := by decide +kernel
theorem dMo_set_88 : decode cMo_set 88 = .ok (.getfield 7, 3) := by decide +kernel
theorem dMo_set_91 : decode cMo_set 91 = .ok (.bipush 64, 2) := by decide +kernel
theorem dMo_set_93 : decode cMo_set 93 = .ok (.iload 4, 2) := by decide +kernel
theorem dMo_set_95 : decode cMo_set 95 = .ok (.imul, 1) := by decide +kernel
theorem dMo_set_96 : decode cMo_set 96 = .ok (.iconst 2, 1) := by decide +kernel
theorem dMo_set_97 : decode cMo_set 97 = .ok (.iadd, 1) := by decide +kernel
theorem dMo_set_98 : decode cMo_set 98 = .ok (.lload 5, 2) := by decide +kernel
theorem dMo_set_100 : decode cMo_set 100 = .ok (.bipush 48, 2) := by decide +kernel
theorem dMo_set_102 : decode cMo_set 102 = .ok (.lushr, 1) := by decide +kernel
theorem dMo_set_103 : decode cMo_set 103 = .ok (.lastore, 1) := by decide +kernel
theorem dMo_set_104 : decode cMo_set 104 = .ok (.aload_n 0, 1) := by decide +kernel
theorem dMo_set_105 : decode cMo_set 105 = .ok (.getfield 13, 3) := by decide +kernel
theorem dMo_set_108 : decode cMo_set 108 = .ok (.iload 4, 2) := by decide +kernel
theorem dMo_set_110 : decode cMo_set 110 = .ok (.lload_n 2, 1) := by decide +kernel
theorem dMo_set_111 : decode cMo_set 111 = .ok (.lconst 0, 1) := by decide +kernel
theorem dMo_set_112 : decode cMo_set 112 = .ok (.lcmp, 1) := by decide +kernel
theorem dMo_set_113 : decode cMo_set 113 = .ok (.ifCond .ge 7, 3) := by decide +kernel
theorem dMo_set_116 : decode cMo_set 116 = .ok (.iconst (-1), 1) := by decide +kernel
theorem dMo_set_117 : decode cMo_set 117 = .ok (.goto 14, 3) := by decide +kernel
theorem dMo_set_120 : decode cMo_set 120 = .ok (.lload_n 2, 1) := by decide +kernel
theorem dMo_set_121 : decode cMo_set 121 = .ok (.lconst 0, 1) := by decide +kernel
theorem dMo_set_122 : decode cMo_set 122 = .ok (.lcmp, 1) := by decide +kernel
theorem dMo_set_123 : decode cMo_set 123 = .ok (.ifCond .le 7, 3) := by decide +kernel
theorem dMo_set_126 : decode cMo_set 126 = .ok (.iconst 1, 1) := by decide +kernel
theorem dMo_set_127 : decode cMo_set 127 = .ok (.goto 4, 3) := by decide +kernel
theorem dMo_set_130 : decode cMo_set 130 = .ok (.iconst 0, 1) := by decide +kernel
theorem dMo_set_131 : decode cMo_set 131 = .ok (.iastore, 1) := by decide +kernel
theorem dMo_set_132 : decode cMo_set 132 = .ok (.return_, 1) := by decide +kernel
theorem dMo_clear_0 : decode cMo_clear 0 = .ok (.iconst 0, 1) := by decide +kernel
theorem dMo_clear_1 : decode cMo_clear 1 = .ok (.istore_n 2, 1) := by decide +kernel
theorem dMo_clear_2 : decode cMo_clear 2 = .ok (.iload_n 2, 1) := by decide +kernel
theorem dMo_clear_3 : decode cMo_clear 3 = .ok (.bipush 64, 2) := by decide +kernel
theorem dMo_clear_5 : decode cMo_clear 5 = .ok (.if_icmp .ge 21, 3) := by decide +kernel
theorem dMo_clear_8 : decode cMo_clear 8 = .ok (.aload_n 0, 1) := by decide +kernel
theorem dMo_clear_9 : decode cMo_clear 9 = .ok (.getfield 7, 3) := by decide +kernel
theorem dMo_clear_12 : decode cMo_clear 12 = .ok (.bipush 64, 2) := by decide +kernel
theorem dMo_clear_14 : decode cMo_clear 14 = .ok (.iload_n 1, 1) := by decide +kernel
theorem dMo_clear_15 : decode cMo_clear 15 = .ok (.imul, 1) := by decide +kernel
theorem dMo_clear_16 : decode cMo_clear 16 = .ok (.iload_n 2, 1) := by decide +kernel
theorem dMo_clear_17 : decode cMo_clear 17 = .ok (.iadd, 1) := by decide +kernel
theorem dMo_clear_18 : decode cMo_clear 18 = .ok (.lconst 0, 1) := by decide +kernel
theorem dMo_clear_19 : decode cMo_clear 19 = .ok (.lastore, 1) := by decide +kernel
theorem dMo_clear_20 : decode cMo_clear 20 = .ok (.iinc 2 1, 3) := by decide +kernel
theorem dMo_clear_23 : decode cMo_clear 23 = .ok (.goto (-21), 3) := by decide +kernel
theorem dMo_clear_26 : decode cMo_clear 26 = .ok (.aload_n 0, 1) := by decide +kernel
theorem dMo_clear_27 : decode cMo_clear 27 = .ok (.getfield 13, 3) := by decide +kernel
theorem dMo_clear_30 : decode cMo_clear 30 = .ok (.iload_n 1, 1) := by decide +kernel
theorem dMo_clear_31 : decode cMo_clear 31 = .ok (.iconst 0, 1) := by decide +kernel
theorem dMo_clear_32 : decode cMo_clear 32 = .ok (.iastore, 1) := by decide +kernel
theorem dMo_clear_33 : decode cMo_clear 33 = .ok (.return_, 1) := by decide +kernel
theorem dMo_keep_0 : decode cMo_keep 0 = .ok (.iload_n 1, 1) := by decide +kernel
theorem dMo_keep_1 : decode cMo_keep 1 = .ok (.ifCond .lt 13, 3) := by decide +kernel
theorem dMo_keep_4 : decode cMo_keep 4 = .ok (.iload_n 1, 1) := by decide +kernel
theorem dMo_keep_5 : decode cMo_keep 5 = .ok (.bipush 8, 2) := by decide +kernel
theorem dMo_keep_7 : decode cMo_keep 7 = .ok (.if_icmp .ge 7, 3) := by decide +kernel
theorem dMo_keep_10 : decode cMo_keep 10 = .ok (.iconst 1, 1) := by decide +kernel
theorem dMo_keep_11 : decode cMo_keep 11 = .ok (.goto 4, 3) := by decide +kernel
theorem dMo_keep_14 : decode cMo_keep 14 = .ok (.iconst 0, 1) := by decide +kernel
theorem dMo_keep_15 : decode cMo_keep 15 = .ok (.istore_n 2, 1) := by decide +kernel
theorem dMo_keep_16 : decode cMo_keep 16 = .ok (.aload_n 0, 1) := by decide +kernel
theorem dMo_keep_17 : decode cMo_keep 17 = .ok (.iload_n 2, 1) := by decide +kernel
theorem dMo_keep_18 : decode cMo_keep 18 = .ok (.ifCond .ne 7, 3) := by decide +kernel
theorem dMo_keep_21 : decode cMo_keep 21 = .ok (.iconst 1, 1) := by decide +kernel
theorem dMo_keep_22 : decode cMo_keep 22 = .ok (.goto 4, 3) := by decide +kernel
theorem dMo_keep_25 : decode cMo_keep 25 = .ok (.iconst 0, 1) := by decide +kernel
theorem dMo_keep_26 : decode cMo_keep 26 = .ok (.iconst 1, 1) := by decide +kernel
theorem dMo_keep_27 : decode cMo_keep 27 = .ok (.invokevirtual 39, 3) := by decide +kernel
theorem dMo_keep_30 : decode cMo_keep 30 = .ok (.ifCond .ne 23, 3) := by decide +kernel
theorem dMo_keep_33 : decode cMo_keep 33 = .ok (.aload_n 0, 1) := by decide +kernel
theorem dMo_keep_34 : decode cMo_keep 34 = .ok (.aload_n 0, 1) := by decide +kernel
theorem dMo_keep_35 : decode cMo_keep 35 = .ok (.invokevirtual 196, 3) := by decide +kernel
theorem dMo_keep_38 : decode cMo_keep 38 = .ok (.ifCond .ne 7, 3) := by decide +kernel
theorem dMo_keep_41 : decode cMo_keep 41 = .ok (.iconst 1, 1) := by decide +kernel
theorem dMo_keep_42 : decode cMo_keep 42 = .ok (.goto 4, 3) := by decide +kernel
theorem dMo_keep_45 : decode cMo_keep 45 = .ok (.iconst 0, 1) := by decide +kernel
theorem dMo_keep_46 : decode cMo_keep 46 = .ok (.iconst 2, 1) := by decide +kernel
theorem dMo_keep_47 : decode cMo_keep 47 = .ok (.invokevirtual 39, 3) := by decide +kernel
theorem dMo_keep_50 : decode cMo_keep 50 = .ok (.ifCond .eq 4, 3) := by decide +kernel
theorem dMo_keep_53 : decode cMo_keep 53 = .ok (.return_, 1) := by decide +kernel
theorem dMo_keep_54 : decode cMo_keep 54 = .ok (.aload_n 0, 1) := by decide +kernel
theorem dMo_keep_55 : decode cMo_keep 55 = .ok (.iconst 0, 1) := by decide +kernel
theorem dMo_keep_56 : decode cMo_keep 56 = .ok (.bipush 10, 2) := by decide +kernel
theorem dMo_keep_58 : decode cMo_keep 58 = .ok (.iload_n 1, 1) := by decide +kernel
theorem dMo_keep_59 : decode cMo_keep 59 = .ok (.iadd, 1) := by decide +kernel
theorem dMo_keep_60 : decode cMo_keep 60 = .ok (.invokevirtual 143, 3) := by decide +kernel
theorem dMo_keep_63 : decode cMo_keep 63 = .ok (.return_, 1) := by decide +kernel
theorem dMo_hasResult_0 : decode cMo_hasResult 0 = .ok (.aload_n 0, 1) := by decide +kernel
theorem dMo_hasResult_1 : decode cMo_hasResult 1 = .ok (.getfield 110, 3) := by decide +kernel
theorem dMo_hasResult_4 : decode cMo_hasResult 4 = .ok (.ifCond .eq 18, 3) := by decide +kernel
theorem dMo_hasResult_7 : decode cMo_hasResult 7 = .ok (.aload_n 0, 1) := by decide +kernel
theorem dMo_hasResult_8 : decode cMo_hasResult 8 = .ok (.getfield 98, 3) := by decide +kernel
theorem dMo_hasResult_11 : decode cMo_hasResult 11 = .ok (.aload_n 0, 1) := by decide +kernel
theorem dMo_hasResult_12 : decode cMo_hasResult 12 = .ok (.getfield 46, 3) := by decide +kernel
theorem dMo_hasResult_15 : decode cMo_hasResult 15 = .ok (.if_icmp .ne 7, 3) := by decide +kernel
theorem dMo_hasResult_18 : decode cMo_hasResult 18 = .ok (.iconst 1, 1) := by decide +kernel
theorem dMo_hasResult_19 : decode cMo_hasResult 19 = .ok (.goto 4, 3) := by decide +kernel
theorem dMo_hasResult_22 : decode cMo_hasResult 22 = .ok (.iconst 0, 1) := by decide +kernel
theorem dMo_hasResult_23 : decode cMo_hasResult 23 = .ok (.ireturn, 1) := by decide +kernel
theorem dMo_copy_0 : decode cMo_copy 0 = .ok (.iconst 0, 1) := by decide +kernel
theorem dMo_copy_1 : decode cMo_copy 1 = .ok (.istore_n 3, 1) := by decide +kernel
theorem dMo_copy_2 : decode cMo_copy 2 = .ok (.iload_n 3, 1) := by decide +kernel
theorem dMo_copy_3 : decode cMo_copy 3 = .ok (.bipush 64, 2) := by decide +kernel
theorem dMo_copy_5 : decode cMo_copy 5 = .ok (.if_icmp .ge 31, 3) := by decide +kernel
theorem dMo_copy_8 : decode cMo_copy 8 = .ok (.aload_n 0, 1) := by decide +kernel
theorem dMo_copy_9 : decode cMo_copy 9 = .ok (.getfield 7, 3) := by decide +kernel
theorem dMo_copy_12 : decode cMo_copy 12 = .ok (.bipush 64, 2) := by decide +kernel
theorem dMo_copy_14 : decode cMo_copy 14 = .ok (.iload_n 2, 1) := by decide +kernel
theorem dMo_copy_15 : decode cMo_copy 15 = .ok (.imul, 1) := by decide +kernel
theorem dMo_copy_16 : decode cMo_copy 16 = .ok (.iload_n 3, 1) := by decide +kernel
theorem dMo_copy_17 : decode cMo_copy 17 = .ok (.iadd, 1) := by decide +kernel
theorem dMo_copy_18 : decode cMo_copy 18 = .ok (.aload_n 0, 1) := by decide +kernel
theorem dMo_copy_19 : decode cMo_copy 19 = .ok (.getfield 7, 3) := by decide +kernel
theorem dMo_copy_22 : decode cMo_copy 22 = .ok (.bipush 64, 2) := by decide +kernel
theorem dMo_copy_24 : decode cMo_copy 24 = .ok (.iload_n 1, 1) := by decide +kernel
theorem dMo_copy_25 : decode cMo_copy 25 = .ok (.imul, 1) := by decide +kernel
theorem dMo_copy_26 : decode cMo_copy 26 = .ok (.iload_n 3, 1) := by decide +kernel
theorem dMo_copy_27 : decode cMo_copy 27 = .ok (.iadd, 1) := by decide +kernel
theorem dMo_copy_28 : decode cMo_copy 28 = .ok (.laload, 1) := by decide +kernel
theorem dMo_copy_29 : decode cMo_copy 29 = .ok (.lastore, 1) := by decide +kernel
theorem dMo_copy_30 : decode cMo_copy 30 = .ok (.iinc 3 1, 3) := by decide +kernel
theorem dMo_copy_33 : decode cMo_copy 33 = .ok (.goto (-31), 3) := by decide +kernel
theorem dMo_copy_36 : decode cMo_copy 36 = .ok (.aload_n 0, 1) := by decide +kernel
theorem dMo_copy_37 : decode cMo_copy 37 = .ok (.getfield 13, 3) := by decide +kernel
theorem dMo_copy_40 : decode cMo_copy 40 = .ok (.iload_n 2, 1) := by decide +kernel
theorem dMo_copy_41 : decode cMo_copy 41 = .ok (.aload_n 0, 1) := by decide +kernel
theorem dMo_copy_42 : decode cMo_copy 42 = .ok (.getfield 13, 3) := by decide +kernel
theorem dMo_copy_45 : decode cMo_copy 45 = .ok (.iload_n 1, 1) := by decide +kernel
theorem dMo_copy_46 : decode cMo_copy 46 = .ok (.iaload, 1) := by decide +kernel
theorem dMo_copy_47 : decode cMo_copy 47 = .ok (.iastore, 1) := by decide +kernel
theorem dMo_copy_48 : decode cMo_copy 48 = .ok (.return_, 1) := by decide +kernel
theorem dMo_restart_0 : decode cMo_restart 0 = .ok (.aload_n 0, 1) := by decide +kernel
theorem dMo_restart_1 : decode cMo_restart 1 = .ok (.aload_n 0, 1) := by decide +kernel
theorem dMo_restart_2 : decode cMo_restart 2 = .ok (.getfield 110, 3) := by decide +kernel
theorem dMo_restart_5 : decode cMo_restart 5 = .ok (.ifCond .ne 7, 3) := by decide +kernel
theorem dMo_restart_8 : decode cMo_restart 8 = .ok (.iconst 1, 1) := by decide +kernel
theorem dMo_restart_9 : decode cMo_restart 9 = .ok (.goto 4, 3) := by decide +kernel
theorem dMo_restart_12 : decode cMo_restart 12 = .ok (.iconst 0, 1) := by decide +kernel
theorem dMo_restart_13 : decode cMo_restart 13 = .ok (.iconst 1, 1) := by decide +kernel
theorem dMo_restart_14 : decode cMo_restart 14 = .ok (.invokevirtual 39, 3) := by decide +kernel
theorem dMo_restart_17 : decode cMo_restart 17 = .ok (.ifCond .ne 7, 3) := by decide +kernel
theorem dMo_restart_20 : decode cMo_restart 20 = .ok (.aload_n 0, 1) := by decide +kernel
theorem dMo_restart_21 : decode cMo_restart 21 = .ok (.invokevirtual 114, 3) := by decide +kernel
theorem dMo_restart_24 : decode cMo_restart 24 = .ok (.return_, 1) := by decide +kernel
theorem dMo_run_0 : decode cMo_run 0 = .ok (.aload_n 0, 1) := by decide +kernel
theorem dMo_run_1 : decode cMo_run 1 = .ok (.aload_n 0, 1) := by decide +kernel
theorem dMo_run_2 : decode cMo_run 2 = .ok (.getfield 110, 3) := by decide +kernel
theorem dMo_run_5 : decode cMo_run 5 = .ok (.ifCond .ne 7, 3) := by decide +kernel
theorem dMo_run_8 : decode cMo_run 8 = .ok (.iconst 1, 1) := by decide +kernel
theorem dMo_run_9 : decode cMo_run 9 = .ok (.goto 4, 3) := by decide +kernel
theorem dMo_run_12 : decode cMo_run 12 = .ok (.iconst 0, 1) := by decide +kernel
theorem dMo_run_13 : decode cMo_run 13 = .ok (.iconst 1, 1) := by decide +kernel
theorem dMo_run_14 : decode cMo_run 14 = .ok (.invokevirtual 39, 3) := by decide +kernel
theorem dMo_run_17 : decode cMo_run 17 = .ok (.ifCond .ne 27, 3) := by decide +kernel
theorem dMo_run_20 : decode cMo_run 20 = .ok (.aload_n 0, 1) := by decide +kernel
theorem dMo_run_21 : decode cMo_run 21 = .ok (.iload_n 1, 1) := by decide +kernel
theorem dMo_run_22 : decode cMo_run 22 = .ok (.ifCond .lt 10, 3) := by decide +kernel
theorem dMo_run_25 : decode cMo_run 25 = .ok (.iload_n 1, 1) := by decide +kernel
theorem dMo_run_26 : decode cMo_run 26 = .ok (.sipush 10000, 3) := by decide +kernel
theorem dMo_run_29 : decode cMo_run 29 = .ok (.if_icmp .le 7, 3) := by decide +kernel
theorem dMo_run_32 : decode cMo_run 32 = .ok (.iconst 1, 1) := by decide +kernel
theorem dMo_run_33 : decode cMo_run 33 = .ok (.goto 4, 3) := by decide +kernel
theorem dMo_run_36 : decode cMo_run 36 = .ok (.iconst 0, 1) := by decide +kernel
theorem dMo_run_37 : decode cMo_run 37 = .ok (.iconst 2, 1) := by decide +kernel
theorem dMo_run_38 : decode cMo_run 38 = .ok (.invokevirtual 39, 3) := by decide +kernel
theorem dMo_run_41 : decode cMo_run 41 = .ok (.ifCond .eq 5, 3) := by decide +kernel
theorem dMo_run_44 : decode cMo_run 44 = .ok (.iconst 0, 1) := by decide +kernel
theorem dMo_run_45 : decode cMo_run 45 = .ok (.ireturn, 1) := by decide +kernel
theorem dMo_run_46 : decode cMo_run 46 = .ok (.iconst 0, 1) := by decide +kernel
theorem dMo_run_47 : decode cMo_run 47 = .ok (.istore_n 2, 1) := by decide +kernel
theorem dMo_run_48 : decode cMo_run 48 = .ok (.iload_n 2, 1) := by decide +kernel
theorem dMo_run_49 : decode cMo_run 49 = .ok (.iload_n 1, 1) := by decide +kernel
theorem dMo_run_50 : decode cMo_run 50 = .ok (.if_icmp .ge 31, 3) := by decide +kernel
theorem dMo_run_53 : decode cMo_run 53 = .ok (.aload_n 0, 1) := by decide +kernel
theorem dMo_run_54 : decode cMo_run 54 = .ok (.getfield 107, 3) := by decide +kernel
theorem dMo_run_57 : decode cMo_run 57 = .ok (.ifCond .ne 24, 3) := by decide +kernel
theorem dMo_run_60 : decode cMo_run 60 = .ok (.aload_n 0, 1) := by decide +kernel
theorem dMo_run_61 : decode cMo_run 61 = .ok (.getfield 98, 3) := by decide +kernel
theorem dMo_run_64 : decode cMo_run 64 = .ok (.aload_n 0, 1) := by decide +kernel
theorem dMo_run_65 : decode cMo_run 65 = .ok (.getfield 46, 3) := by decide +kernel
theorem dMo_run_68 : decode cMo_run 68 = .ok (.if_icmp .ge 13, 3) := by decide +kernel
theorem dMo_run_71 : decode cMo_run 71 = .ok (.aload_n 0, 1) := by decide +kernel
theorem dMo_run_72 : decode cMo_run 72 = .ok (.invokevirtual 199, 3) := by decide +kernel
theorem dMo_run_75 : decode cMo_run 75 = .ok (.iinc 2 1, 3) := by decide +kernel
theorem dMo_run_78 : decode cMo_run 78 = .ok (.goto (-30), 3) := by decide +kernel
theorem dMo_run_81 : decode cMo_run 81 = .ok (.aload_n 0, 1) := by decide +kernel
theorem dMo_run_82 : decode cMo_run 82 = .ok (.getfield 107, 3) := by decide +kernel
theorem dMo_run_85 : decode cMo_run 85 = .ok (.ifCond .le 10, 3) := by decide +kernel
theorem dMo_run_88 : decode cMo_run 88 = .ok (.aload_n 0, 1) := by decide +kernel
theorem dMo_run_89 : decode cMo_run 89 = .ok (.getfield 107, 3) := by decide +kernel
theorem dMo_run_92 : decode cMo_run 92 = .ok (.goto 19, 3) := by decide +kernel
theorem dMo_run_95 : decode cMo_run 95 = .ok (.aload_n 0, 1) := by decide +kernel
theorem dMo_run_96 : decode cMo_run 96 = .ok (.getfield 98, 3) := by decide +kernel
theorem dMo_run_99 : decode cMo_run 99 = .ok (.aload_n 0, 1) := by decide +kernel
theorem dMo_run_100 : decode cMo_run 100 = .ok (.getfield 46, 3) := by decide +kernel
theorem dMo_run_103 : decode cMo_run 103 = .ok (.if_icmp .ge 7, 3) := by decide +kernel
theorem dMo_run_106 : decode cMo_run 106 = .ok (.iconst 1, 1) := by decide +kernel
theorem dMo_run_107 : decode cMo_run 107 = .ok (.goto 4, 3) := by decide +kernel
theorem dMo_run_110 : decode cMo_run 110 = .ok (.iconst 0, 1) := by decide +kernel
theorem dMo_run_111 : decode cMo_run 111 = .ok (.ireturn, 1) := by decide +kernel
theorem dMo_step_0 : decode cMo_step 0 = .ok (.aload_n 0, 1) := by decide +kernel
theorem dMo_step_1 : decode cMo_step 1 = .ok (.getfield 23, 3) := by decide +kernel
theorem dMo_step_4 : decode cMo_step 4 = .ok (.aload_n 0, 1) := by decide +kernel
theorem dMo_step_5 : decode cMo_step 5 = .ok (.getfield 98, 3) := by decide +kernel
theorem dMo_step_8 : decode cMo_step 8 = .ok (.iaload, 1) := by decide +kernel
theorem dMo_step_9 : decode cMo_step 9 = .ok (.istore_n 1, 1) := by decide +kernel
theorem dMo_step_10 : decode cMo_step 10 = .ok (.iload_n 1, 1) := by decide +kernel
theorem dMo_step_11 : decode cMo_step 11 = .ok (.invokestatic 95, 3) := by decide +kernel
theorem dMo_step_14 : decode cMo_step 14 = .ok (.istore_n 2, 1) := by decide +kernel
theorem dMo_step_15 : decode cMo_step 15 = .ok (.iload_n 2, 1) := by decide +kernel
theorem dMo_step_16 : decode cMo_step 16 = .ok (.ifCond .ne 20, 3) := by decide +kernel
theorem dMo_step_19 : decode cMo_step 19 = .ok (.aload_n 0, 1) := by decide +kernel
theorem dMo_step_20 : decode cMo_step 20 = .ok (.iload_n 1, 1) := by decide +kernel
theorem dMo_step_21 : decode cMo_step 21 = .ok (.aload_n 0, 1) := by decide +kernel
theorem dMo_step_22 : decode cMo_step 22 = .ok (.getfield 26, 3) := by decide +kernel
theorem dMo_step_25 : decode cMo_step 25 = .ok (.aload_n 0, 1) := by decide +kernel
theorem dMo_step_26 : decode cMo_step 26 = .ok (.getfield 98, 3) := by decide +kernel
theorem dMo_step_29 : decode cMo_step 29 = .ok (.iaload, 1) := by decide +kernel
theorem dMo_step_30 : decode cMo_step 30 = .ok (.invokevirtual 190, 3) := by decide +kernel
theorem dMo_step_33 : decode cMo_step 33 = .ok (.goto 18, 3) := by decide +kernel
theorem dMo_step_36 : decode cMo_step 36 = .ok (.aload_n 0, 1) := by decide +kernel
theorem dMo_step_37 : decode cMo_step 37 = .ok (.aload_n 0, 1) := by decide +kernel
theorem dMo_step_38 : decode cMo_step 38 = .ok (.iload_n 1, 1) := by decide +kernel
theorem dMo_step_39 : decode cMo_step 39 = .ok (.aload_n 0, 1) := by decide +kernel
theorem dMo_step_40 : decode cMo_step 40 = .ok (.getfield 101, 3) := by decide +kernel
theorem dMo_step_43 : decode cMo_step 43 = .ok (.iload_n 2, 1) := by decide +kernel
theorem dMo_step_44 : decode cMo_step 44 = .ok (.isub, 1) := by decide +kernel
theorem dMo_step_45 : decode cMo_step 45 = .ok (.invokevirtual 193, 3) := by decide +kernel
theorem dMo_step_48 : decode cMo_step 48 = .ok (.putfield 107, 3) := by decide +kernel
theorem dMo_step_51 : decode cMo_step 51 = .ok (.aload_n 0, 1) := by decide +kernel
theorem dMo_step_52 : decode cMo_step 52 = .ok (.getfield 107, 3) := by decide +kernel
theorem dMo_step_55 : decode cMo_step 55 = .ok (.ifCond .le 4, 3) := by decide +kernel
theorem dMo_step_58 : decode cMo_step 58 = .ok (.return_, 1) := by decide +kernel
theorem dMo_step_59 : decode cMo_step 59 = .ok (.aload_n 0, 1) := by decide +kernel
theorem dMo_step_60 : decode cMo_step 60 = .ok (.aload_n 0, 1) := by decide +kernel
theorem dMo_step_61 : decode cMo_step 61 = .ok (.getfield 101, 3) := by decide +kernel
theorem dMo_step_64 : decode cMo_step 64 = .ok (.iconst 1, 1) := by decide +kernel
theorem dMo_step_65 : decode cMo_step 65 = .ok (.iadd, 1) := by decide +kernel
theorem dMo_step_66 : decode cMo_step 66 = .ok (.iload_n 2, 1) := by decide +kernel
theorem dMo_step_67 : decode cMo_step 67 = .ok (.isub, 1) := by decide +kernel
theorem dMo_step_68 : decode cMo_step 68 = .ok (.putfield 101, 3) := by decide +kernel
theorem dMo_step_71 : decode cMo_step 71 = .ok (.aload_n 0, 1) := by decide +kernel
theorem dMo_step_72 : decode cMo_step 72 = .ok (.aload_n 0, 1) := by decide +kernel
theorem dMo_step_73 : decode cMo_step 73 = .ok (.getfield 101, 3) := by decide +kernel
theorem dMo_step_76 : decode cMo_step 76 = .ok (.aload_n 0, 1) := by decide +kernel
theorem dMo_step_77 : decode cMo_step 77 = .ok (.getfield 104, 3) := by decide +kernel
theorem dMo_step_80 : decode cMo_step 80 = .ok (.if_icmp .le 10, 3) := by decide +kernel
theorem dMo_step_83 : decode cMo_step 83 = .ok (.aload_n 0, 1) := by decide +kernel
theorem dMo_step_84 : decode cMo_step 84 = .ok (.getfield 101, 3) := by decide +kernel
theorem dMo_step_87 : decode cMo_step 87 = .ok (.goto 7, 3) := by decide +kernel
theorem dMo_step_90 : decode cMo_step 90 = .ok (.aload_n 0, 1) := by decide +kernel
theorem dMo_step_91 : decode cMo_step 91 = .ok (.getfield 104, 3) := by decide +kernel
theorem dMo_step_94 : decode cMo_step 94 = .ok (.putfield 104, 3) := by decide +kernel
theorem dMo_step_97 : decode cMo_step 97 = .ok (.aload_n 0, 1) := by decide +kernel
theorem dMo_step_98 : decode cMo_step 98 = .ok (.dup, 1) := by decide +kernel
theorem dMo_step_99 : decode cMo_step 99 = .ok (.getfield 98, 3) := by decide +kernel
theorem dMo_step_102 : decode cMo_step 102 = .ok (.iconst 1, 1) := by decide +kernel
theorem dMo_step_103 : decode cMo_step 103 = .ok (.iadd, 1) := by decide +kernel
theorem dMo_step_104 : decode cMo_step 104 = .ok (.putfield 98, 3) := by decide +kernel
theorem dMo_step_107 : decode cMo_step 107 = .ok (.return_, 1) := by decide +kernel
theorem dMo_load_0 : decode cMo_load 0 = .ok (.iload_n 1, 1) := by decide +kernel
theorem dMo_load_1 : decode cMo_load 1 = .ok (.iconst 1, 1) := by decide +kernel
theorem dMo_load_2 : decode cMo_load 2 = .ok (.if_icmp .ne 16, 3) := by decide +kernel
theorem dMo_load_5 : decode cMo_load 5 = .ok (.aload_n 0, 1) := by decide +kernel
theorem dMo_load_6 : decode cMo_load 6 = .ok (.bipush 10, 2) := by decide +kernel
theorem dMo_load_8 : decode cMo_load 8 = .ok (.iload_n 2, 1) := by decide +kernel
theorem dMo_load_9 : decode cMo_load 9 = .ok (.iadd, 1) := by decide +kernel
theorem dMo_load_10 : decode cMo_load 10 = .ok (.aload_n 0, 1) := by decide +kernel
theorem dMo_load_11 : decode cMo_load 11 = .ok (.getfield 101, 3) := by decide +kernel
theorem dMo_load_14 : decode cMo_load 14 = .ok (.invokevirtual 143, 3) := by decide +kernel
theorem dMo_load_17 : decode cMo_load 17 = .ok (.return_, 1) := by decide +kernel
theorem dMo_load_18 : decode cMo_load 18 = .ok (.aload_n 0, 1) := by decide +kernel
theorem dMo_load_19 : decode cMo_load 19 = .ok (.aload_n 0, 1) := by decide +kernel
theorem dMo_load_20 : decode cMo_load 20 = .ok (.getfield 101, 3) := by decide +kernel
theorem dMo_load_23 : decode cMo_load 23 = .ok (.invokevirtual 125, 3) := by decide +kernel
theorem dMo_load_26 : decode cMo_load 26 = .ok (.aload_n 0, 1) := by decide +kernel
theorem dMo_load_27 : decode cMo_load 27 = .ok (.getfield 7, 3) := by decide +kernel
theorem dMo_load_30 : decode cMo_load 30 = .ok (.bipush 64, 2) := by decide +kernel
theorem dMo_load_32 : decode cMo_load 32 = .ok (.aload_n 0, 1) := by decide +kernel
theorem dMo_load_33 : decode cMo_load 33 = .ok (.getfield 101, 3) := by decide +kernel
theorem dMo_load_36 : decode cMo_load 36 = .ok (.imul, 1) := by decide +kernel
theorem dMo_load_37 : decode cMo_load 37 = .ok (.iload_n 2, 1) := by decide +kernel
theorem dMo_load_38 : decode cMo_load 38 = .ok (.i2l, 1) := by decide +kernel
theorem dMo_load_39 : decode cMo_load 39 = .ok (.ldc2_w 123, 3) := by decide +kernel
theorem dMo_load_42 : decode cMo_load 42 = .ok (.land, 1) := by decide +kernel
theorem dMo_load_43 : decode cMo_load 43 = .ok (.lastore, 1) := by decide +kernel
theorem dMo_load_44 : decode cMo_load 44 = .ok (.aload_n 0, 1) := by decide +kernel
theorem dMo_load_45 : decode cMo_load 45 = .ok (.getfield 7, 3) := by decide +kernel
theorem dMo_load_48 : decode cMo_load 48 = .ok (.bipush 64, 2) := by decide +kernel
theorem dMo_load_50 : decode cMo_load 50 = .ok (.aload_n 0, 1) := by decide +kernel
theorem dMo_load_51 : decode cMo_load 51 = .ok (.getfield 101, 3) := by decide +kernel
theorem dMo_load_54 : decode cMo_load 54 = .ok (.imul, 1) := by decide +kernel
theorem dMo_load_55 : decode cMo_load 55 = .ok (.iconst 1, 1) := by decide +kernel
theorem dMo_load_56 : decode cMo_load 56 = .ok (.iadd, 1) := by decide +kernel
theorem dMo_load_57 : decode cMo_load 57 = .ok (.iload_n 2, 1) := by decide +kernel
theorem dMo_load_58 : decode cMo_load 58 = .ok (.bipush 24, 2) := by decide +kernel
theorem dMo_load_60 : decode cMo_load 60 = .ok (.ishr, 1) := by decide +kernel
theorem dMo_load_61 : decode cMo_load 61 = .ok (.i2l, 1) := by decide +kernel
theorem dMo_load_62 : decode cMo_load 62 = .ok (.lastore, 1) := by decide +kernel
theorem dMo_load_63 : decode cMo_load 63 = .ok (.aload_n 0, 1) := by decide +kernel
theorem dMo_load_64 : decode cMo_load 64 = .ok (.getfield 13, 3) := by decide +kernel
theorem dMo_load_67 : decode cMo_load 67 = .ok (.aload_n 0, 1) := by decide +kernel
theorem dMo_load_68 : decode cMo_load 68 = .ok (.getfield 101, 3) := by decide +kernel
theorem dMo_load_71 : decode cMo_load 71 = .ok (.iload_n 2, 1) := by decide +kernel
theorem dMo_load_72 : decode cMo_load 72 = .ok (.ifCond .ne 7, 3) := by decide +kernel
theorem dMo_load_75 : decode cMo_load 75 = .ok (.iconst 0, 1) := by decide +kernel
theorem dMo_load_76 : decode cMo_load 76 = .ok (.goto 4, 3) := by decide +kernel
theorem dMo_load_79 : decode cMo_load 79 = .ok (.iconst 1, 1) := by decide +kernel
theorem dMo_load_80 : decode cMo_load 80 = .ok (.iastore, 1) := by decide +kernel
theorem dMo_load_81 : decode cMo_load 81 = .ok (.return_, 1) := by decide +kernel
theorem dMo_works_0 : decode cMo_works 0 = .ok (.iload_n 1, 1) := by decide +kernel
theorem dMo_works_1 : decode cMo_works 1 = .ok (.tableswitch 148 2 13 #[63, 73, 83, 92, 102, 112, 148, 148, 148, 121, 130, 136], 63) := by decide +kernel
theorem dMo_works_64 : decode cMo_works 64 = .ok (.aload_n 0, 1) := by decide +kernel
theorem dMo_works_65 : decode cMo_works 65 = .ok (.iload_n 2, 1) := by decide +kernel
theorem dMo_works_66 : decode cMo_works 66 = .ok (.iload_n 2, 1) := by decide +kernel
theorem dMo_works_67 : decode cMo_works 67 = .ok (.iconst 1, 1) := by decide +kernel
theorem dMo_works_68 : decode cMo_works 68 = .ok (.iadd, 1) := by decide +kernel
theorem dMo_works_69 : decode cMo_works 69 = .ok (.iconst 1, 1) := by decide +kernel
theorem dMo_works_70 : decode cMo_works 70 = .ok (.invokevirtual 171, 3) := by decide +kernel
theorem dMo_works_73 : decode cMo_works 73 = .ok (.ireturn, 1) := by decide +kernel
theorem dMo_works_74 : decode cMo_works 74 = .ok (.aload_n 0, 1) := by decide +kernel
theorem dMo_works_75 : decode cMo_works 75 = .ok (.iload_n 2, 1) := by decide +kernel
theorem dMo_works_76 : decode cMo_works 76 = .ok (.iload_n 2, 1) := by decide +kernel
theorem dMo_works_77 : decode cMo_works 77 = .ok (.iconst 1, 1) := by decide +kernel
theorem dMo_works_78 : decode cMo_works 78 = .ok (.iadd, 1) := by decide +kernel
theorem dMo_works_79 : decode cMo_works 79 = .ok (.iconst (-1), 1) := by decide +kernel
theorem dMo_works_80 : decode cMo_works 80 = .ok (.invokevirtual 171, 3) := by decide +kernel
theorem dMo_works_83 : decode cMo_works 83 = .ok (.ireturn, 1) := by decide +kernel
theorem dMo_works_84 : decode cMo_works 84 = .ok (.aload_n 0, 1) := by decide +kernel
theorem dMo_works_85 : decode cMo_works 85 = .ok (.iload_n 2, 1) := by decide +kernel
theorem dMo_works_86 : decode cMo_works 86 = .ok (.iload_n 2, 1) := by decide +kernel
theorem dMo_works_87 : decode cMo_works 87 = .ok (.iconst 1, 1) := by decide +kernel
theorem dMo_works_88 : decode cMo_works 88 = .ok (.iadd, 1) := by decide +kernel
theorem dMo_works_89 : decode cMo_works 89 = .ok (.invokevirtual 175, 3) := by decide +kernel
theorem dMo_works_92 : decode cMo_works 92 = .ok (.ireturn, 1) := by decide +kernel
theorem dMo_works_93 : decode cMo_works 93 = .ok (.aload_n 0, 1) := by decide +kernel
theorem dMo_works_94 : decode cMo_works 94 = .ok (.iload_n 2, 1) := by decide +kernel
theorem dMo_works_95 : decode cMo_works 95 = .ok (.iload_n 2, 1) := by decide +kernel
theorem dMo_works_96 : decode cMo_works 96 = .ok (.iconst 1, 1) := by decide +kernel
theorem dMo_works_97 : decode cMo_works 97 = .ok (.iadd, 1) := by decide +kernel
theorem dMo_works_98 : decode cMo_works 98 = .ok (.iconst 0, 1) := by decide +kernel
theorem dMo_works_99 : decode cMo_works 99 = .ok (.invokevirtual 167, 3) := by decide +kernel
theorem dMo_works_102 : decode cMo_works 102 = .ok (.ireturn, 1) := by decide +kernel
theorem dMo_works_103 : decode cMo_works 103 = .ok (.aload_n 0, 1) := by decide +kernel
theorem dMo_works_104 : decode cMo_works 104 = .ok (.iload_n 2, 1) := by decide +kernel
theorem dMo_works_105 : decode cMo_works 105 = .ok (.iload_n 2, 1) := by decide +kernel
theorem dMo_works_106 : decode cMo_works 106 = .ok (.iconst 1, 1) := by decide +kernel
theorem dMo_works_107 : decode cMo_works 107 = .ok (.iadd, 1) := by decide +kernel
theorem dMo_works_108 : decode cMo_works 108 = .ok (.iconst 1, 1) := by decide +kernel
theorem dMo_works_109 : decode cMo_works 109 = .ok (.invokevirtual 167, 3) := by decide +kernel
theorem dMo_works_112 : decode cMo_works 112 = .ok (.ireturn, 1) := by decide +kernel
theorem dMo_works_113 : decode cMo_works 113 = .ok (.aload_n 0, 1) := by decide +kernel
theorem dMo_works_114 : decode cMo_works 114 = .ok (.iload_n 2, 1) := by decide +kernel
theorem dMo_works_115 : decode cMo_works 115 = .ok (.iload_n 2, 1) := by decide +kernel
theorem dMo_works_116 : decode cMo_works 116 = .ok (.iconst 1, 1) := by decide +kernel
theorem dMo_works_117 : decode cMo_works 117 = .ok (.iadd, 1) := by decide +kernel
theorem dMo_works_118 : decode cMo_works 118 = .ok (.invokevirtual 178, 3) := by decide +kernel
theorem dMo_works_121 : decode cMo_works 121 = .ok (.ireturn, 1) := by decide +kernel
theorem dMo_works_122 : decode cMo_works 122 = .ok (.aload_n 0, 1) := by decide +kernel
theorem dMo_works_123 : decode cMo_works 123 = .ok (.iload_n 2, 1) := by decide +kernel
theorem dMo_works_124 : decode cMo_works 124 = .ok (.iload_n 2, 1) := by decide +kernel
theorem dMo_works_125 : decode cMo_works 125 = .ok (.iconst 1, 1) := by decide +kernel
theorem dMo_works_126 : decode cMo_works 126 = .ok (.iadd, 1) := by decide +kernel
theorem dMo_works_127 : decode cMo_works 127 = .ok (.invokevirtual 181, 3) := by decide +kernel
theorem dMo_works_130 : decode cMo_works 130 = .ok (.ireturn, 1) := by decide +kernel
theorem dMo_works_131 : decode cMo_works 131 = .ok (.aload_n 0, 1) := by decide +kernel
theorem dMo_works_132 : decode cMo_works 132 = .ok (.iload_n 2, 1) := by decide +kernel
theorem dMo_works_133 : decode cMo_works 133 = .ok (.invokevirtual 184, 3) := by decide +kernel
theorem dMo_works_136 : decode cMo_works 136 = .ok (.ireturn, 1) := by decide +kernel
theorem dMo_works_137 : decode cMo_works 137 = .ok (.aload_n 0, 1) := by decide +kernel
theorem dMo_works_138 : decode cMo_works 138 = .ok (.iload_n 2, 1) := by decide +kernel
theorem dMo_works_139 : decode cMo_works 139 = .ok (.iload_n 2, 1) := by decide +kernel
theorem dMo_works_140 : decode cMo_works 140 = .ok (.iconst 1, 1) := by decide +kernel
theorem dMo_works_141 : decode cMo_works 141 = .ok (.iadd, 1) := by decide +kernel
theorem dMo_works_142 : decode cMo_works 142 = .ok (.iload_n 2, 1) := by decide +kernel
theorem dMo_works_143 : decode cMo_works 143 = .ok (.iconst 2, 1) := by decide +kernel
theorem dMo_works_144 : decode cMo_works 144 = .ok (.iadd, 1) := by decide +kernel
theorem dMo_works_145 : decode cMo_works 145 = .ok (.invokevirtual 187, 3) := by decide +kernel
theorem dMo_works_148 : decode cMo_works 148 = .ok (.ireturn, 1) := by decide +kernel
theorem dMo_works_149 : decode cMo_works 149 = .ok (.aload_n 0, 1) := by decide +kernel
theorem dMo_works_150 : decode cMo_works 150 = .ok (.getfield 13, 3) := by decide +kernel
theorem dMo_works_153 : decode cMo_works 153 = .ok (.iload_n 2, 1) := by decide +kernel
theorem dMo_works_154 : decode cMo_works 154 = .ok (.aload_n 0, 1) := by decide +kernel
theorem dMo_works_155 : decode cMo_works 155 = .ok (.getfield 13, 3) := by decide +kernel
theorem dMo_works_158 : decode cMo_works 158 = .ok (.iload_n 2, 1) := by decide +kernel
theorem dMo_works_159 : decode cMo_works 159 = .ok (.iaload, 1) := by decide +kernel
theorem dMo_works_160 : decode cMo_works 160 = .ok (.ineg, 1) := by decide +kernel
theorem dMo_works_161 : decode cMo_works 161 = .ok (.iastore, 1) := by decide +kernel
theorem dMo_works_162 : decode cMo_works 162 = .ok (.iconst 0, 1) := by decide +kernel
theorem dMo_works_163 : decode cMo_works 163 = .ok (.ireturn, 1) := by decide +kernel
theorem dMo_sum_0 : decode cMo_sum 0 = .ok (.aload_n 0, 1) := by decide +kernel
theorem dMo_sum_1 : decode cMo_sum 1 = .ok (.iload_n 2, 1) := by decide +kernel
theorem dMo_sum_2 : decode cMo_sum 2 = .ok (.bipush 18, 2) := by decide +kernel
theorem dMo_sum_4 : decode cMo_sum 4 = .ok (.invokevirtual 143, 3) := by decide +kernel
theorem dMo_sum_7 : decode cMo_sum 7 = .ok (.aload_n 0, 1) := by decide +kernel
theorem dMo_sum_8 : decode cMo_sum 8 = .ok (.getfield 13, 3) := by decide +kernel
theorem dMo_sum_11 : decode cMo_sum 11 = .ok (.bipush 18, 2) := by decide +kernel
theorem dMo_sum_13 : decode cMo_sum 13 = .ok (.iload_n 3, 1) := by decide +kernel
theorem dMo_sum_14 : decode cMo_sum 14 = .ok (.aload_n 0, 1) := by decide +kernel
theorem dMo_sum_15 : decode cMo_sum 15 = .ok (.getfield 13, 3) := by decide +kernel
theorem dMo_sum_18 : decode cMo_sum 18 = .ok (.iload_n 2, 1) := by decide +kernel
theorem dMo_sum_19 : decode cMo_sum 19 = .ok (.iaload, 1) := by decide +kernel
theorem dMo_sum_20 : decode cMo_sum 20 = .ok (.imul, 1) := by decide +kernel
theorem dMo_sum_21 : decode cMo_sum 21 = .ok (.iastore, 1) := by decide +kernel
theorem dMo_sum_22 : decode cMo_sum 22 = .ok (.aload_n 0, 1) := by decide +kernel
theorem dMo_sum_23 : decode cMo_sum 23 = .ok (.getfield 13, 3) := by decide +kernel
theorem dMo_sum_26 : decode cMo_sum 26 = .ok (.iload_n 1, 1) := by decide +kernel
theorem dMo_sum_27 : decode cMo_sum 27 = .ok (.iaload, 1) := by decide +kernel
theorem dMo_sum_28 : decode cMo_sum 28 = .ok (.ifCond .ne 13, 3) := by decide +kernel
theorem dMo_sum_31 : decode cMo_sum 31 = .ok (.aload_n 0, 1) := by decide +kernel
theorem dMo_sum_32 : decode cMo_sum 32 = .ok (.bipush 18, 2) := by decide +kernel
theorem dMo_sum_34 : decode cMo_sum 34 = .ok (.iload_n 1, 1) := by decide +kernel
theorem dMo_sum_35 : decode cMo_sum 35 = .ok (.invokevirtual 143, 3) := by decide +kernel
theorem dMo_sum_38 : decode cMo_sum 38 = .ok (.goto 102, 3) := by decide +kernel
theorem dMo_sum_41 : decode cMo_sum 41 = .ok (.aload_n 0, 1) := by decide +kernel
theorem dMo_sum_42 : decode cMo_sum 42 = .ok (.getfield 13, 3) := by decide +kernel
theorem dMo_sum_45 : decode cMo_sum 45 = .ok (.bipush 18, 2) := by decide +kernel
theorem dMo_sum_47 : decode cMo_sum 47 = .ok (.iaload, 1) := by decide +kernel
theorem dMo_sum_48 : decode cMo_sum 48 = .ok (.aload_n 0, 1) := by decide +kernel
theorem dMo_sum_49 : decode cMo_sum 49 = .ok (.getfield 13, 3) := by decide +kernel
theorem dMo_sum_52 : decode cMo_sum 52 = .ok (.iload_n 1, 1) := by decide +kernel
theorem dMo_sum_53 : decode cMo_sum 53 = .ok (.iaload, 1) := by decide +kernel
theorem dMo_sum_54 : decode cMo_sum 54 = .ok (.if_icmp .ne 13, 3) := by decide +kernel
theorem dMo_sum_57 : decode cMo_sum 57 = .ok (.aload_n 0, 1) := by decide +kernel
theorem dMo_sum_58 : decode cMo_sum 58 = .ok (.iload_n 1, 1) := by decide +kernel
theorem dMo_sum_59 : decode cMo_sum 59 = .ok (.bipush 18, 2) := by decide +kernel
theorem dMo_sum_61 : decode cMo_sum 61 = .ok (.invokevirtual 146, 3) := by decide +kernel
theorem dMo_sum_64 : decode cMo_sum 64 = .ok (.goto 76, 3) := by decide +kernel
theorem dMo_sum_67 : decode cMo_sum 67 = .ok (.aload_n 0, 1) := by decide +kernel
theorem dMo_sum_68 : decode cMo_sum 68 = .ok (.getfield 13, 3) := by decide +kernel
theorem dMo_sum_71 : decode cMo_sum 71 = .ok (.bipush 18, 2) := by decide +kernel
theorem dMo_sum_73 : decode cMo_sum 73 = .ok (.iaload, 1) := by decide +kernel
theorem dMo_sum_74 : decode cMo_sum 74 = .ok (.ifCond .eq 66, 3) := by decide +kernel
theorem dMo_sum_77 : decode cMo_sum 77 = .ok (.aload_n 0, 1) := by decide +kernel
theorem dMo_sum_78 : decode cMo_sum 78 = .ok (.iload_n 1, 1) := by decide +kernel
theorem dMo_sum_79 : decode cMo_sum 79 = .ok (.bipush 18, 2) := by decide +kernel
theorem dMo_sum_81 : decode cMo_sum 81 = .ok (.invokevirtual 149, 3) := by decide +kernel
theorem dMo_sum_84 : decode cMo_sum 84 = .ok (.istore 4, 2) := by decide +kernel
theorem dMo_sum_86 : decode cMo_sum 86 = .ok (.iload 4, 2) := by decide +kernel
theorem dMo_sum_88 : decode cMo_sum 88 = .ok (.ifCond .lt 36, 3) := by decide +kernel
theorem dMo_sum_91 : decode cMo_sum 91 = .ok (.aload_n 0, 1) := by decide +kernel
theorem dMo_sum_92 : decode cMo_sum 92 = .ok (.iload_n 1, 1) := by decide +kernel
theorem dMo_sum_93 : decode cMo_sum 93 = .ok (.bipush 18, 2) := by decide +kernel
theorem dMo_sum_95 : decode cMo_sum 95 = .ok (.lconst 1, 1) := by decide +kernel
theorem dMo_sum_96 : decode cMo_sum 96 = .ok (.iconst 0, 1) := by decide +kernel
theorem dMo_sum_97 : decode cMo_sum 97 = .ok (.invokevirtual 135, 3) := by decide +kernel
theorem dMo_sum_100 : decode cMo_sum 100 = .ok (.aload_n 0, 1) := by decide +kernel
theorem dMo_sum_101 : decode cMo_sum 101 = .ok (.getfield 13, 3) := by decide +kernel
theorem dMo_sum_104 : decode cMo_sum 104 = .ok (.iload_n 1, 1) := by decide +kernel
theorem dMo_sum_105 : decode cMo_sum 105 = .ok (.iload 4, 2) := by decide +kernel
theorem dMo_sum_107 : decode cMo_sum 107 = .ok (.ifCond .ne 7, 3) := by decide +kernel
theorem dMo_sum_110 : decode cMo_sum 110 = .ok (.iconst 0, 1) := by decide +kernel
theorem dMo_sum_111 : decode cMo_sum 111 = .ok (.goto 9, 3) := by decide +kernel
theorem dMo_sum_114 : decode cMo_sum 114 = .ok (.aload_n 0, 1) := by decide +kernel
theorem dMo_sum_115 : decode cMo_sum 115 = .ok (.getfield 13, 3) := by decide +kernel
theorem dMo_sum_118 : decode cMo_sum 118 = .ok (.iload_n 1, 1) := by decide +kernel
theorem dMo_sum_119 : decode cMo_sum 119 = .ok (.iaload, 1) := by decide +kernel
theorem dMo_sum_120 : decode cMo_sum 120 = .ok (.iastore, 1) := by decide +kernel
theorem dMo_sum_121 : decode cMo_sum 121 = .ok (.goto 19, 3) := by decide +kernel
theorem dMo_sum_124 : decode cMo_sum 124 = .ok (.aload_n 0, 1) := by decide +kernel
theorem dMo_sum_125 : decode cMo_sum 125 = .ok (.bipush 18, 2) := by decide +kernel
theorem dMo_sum_127 : decode cMo_sum 127 = .ok (.iload_n 1, 1) := by decide +kernel
theorem dMo_sum_128 : decode cMo_sum 128 = .ok (.lconst 1, 1) := by decide +kernel
theorem dMo_sum_129 : decode cMo_sum 129 = .ok (.iconst 0, 1) := by decide +kernel
theorem dMo_sum_130 : decode cMo_sum 130 = .ok (.invokevirtual 135, 3) := by decide +kernel
theorem dMo_sum_133 : decode cMo_sum 133 = .ok (.aload_n 0, 1) := by decide +kernel
theorem dMo_sum_134 : decode cMo_sum 134 = .ok (.bipush 18, 2) := by decide +kernel
theorem dMo_sum_136 : decode cMo_sum 136 = .ok (.iload_n 1, 1) := by decide +kernel
theorem dMo_sum_137 : decode cMo_sum 137 = .ok (.invokevirtual 143, 3) := by decide +kernel
theorem dMo_sum_140 : decode cMo_sum 140 = .ok (.aload_n 0, 1) := by decide +kernel
theorem dMo_sum_141 : decode cMo_sum 141 = .ok (.iload_n 1, 1) := by decide +kernel
theorem dMo_sum_142 : decode cMo_sum 142 = .ok (.invokevirtual 152, 3) := by decide +kernel
theorem dMo_sum_145 : decode cMo_sum 145 = .ok (.ifCond .eq 8, 3) := by decide +kernel
theorem dMo_sum_148 : decode cMo_sum 148 = .ok (.bipush 6, 2) := by decide +kernel
theorem dMo_sum_150 : decode cMo_sum 150 = .ok (.goto 4, 3) := by decide +kernel
theorem dMo_sum_153 : decode cMo_sum 153 = .ok (.iconst 0, 1) := by decide +kernel
theorem dMo_sum_154 : decode cMo_sum 154 = .ok (.ireturn, 1) := by decide +kernel
theorem dMo_addTo_0 : decode cMo_addTo 0 = .ok (.lconst 0, 1) := by decide +kernel
theorem dMo_addTo_1 : decode cMo_addTo 1 = .ok (.lstore_n 3, 1) := by decide +kernel
theorem dMo_addTo_2 : decode cMo_addTo 2 = .ok (.iconst 0, 1) := by decide +kernel
theorem dMo_addTo_3 : decode cMo_addTo 3 = .ok (.istore 5, 2) := by decide +kernel
theorem dMo_addTo_5 : decode cMo_addTo 5 = .ok (.iload 5, 2) := by decide +kernel
theorem dMo_addTo_7 : decode cMo_addTo 7 = .ok (.bipush 64, 2) := by decide +kernel
theorem dMo_addTo_9 : decode cMo_addTo 9 = .ok (.if_icmp .ge 62, 3) := by decide +kernel
theorem dMo_addTo_12 : decode cMo_addTo 12 = .ok (.aload_n 0, 1) := by decide +kernel
theorem dMo_addTo_13 : decode cMo_addTo 13 = .ok (.getfield 7, 3) := by decide +kernel
theorem dMo_addTo_16 : decode cMo_addTo 16 = .ok (.bipush 64, 2) := by decide +kernel
theorem dMo_addTo_18 : decode cMo_addTo 18 = .ok (.iload_n 1, 1) := by decide +kernel
theorem dMo_addTo_19 : decode cMo_addTo 19 = .ok (.imul, 1) := by decide +kernel
theorem dMo_addTo_20 : decode cMo_addTo 20 = .ok (.iload 5, 2) := by decide +kernel
theorem dMo_addTo_22 : decode cMo_addTo 22 = .ok (.iadd, 1) := by decide +kernel
theorem dMo_addTo_23 : decode cMo_addTo 23 = .ok (.laload, 1) := by decide +kernel
theorem dMo_addTo_24 : decode cMo_addTo 24 = .ok (.aload_n 0, 1) := by decide +kernel
theorem dMo_addTo_25 : decode cMo_addTo 25 = .ok (.getfield 7, 3) := by decide +kernel
theorem dMo_addTo_28 : decode cMo_addTo 28 = .ok (.bipush 64, 2) := by decide +kernel
theorem dMo_addTo_30 : decode cMo_addTo 30 = .ok (.iload_n 2, 1) := by decide +kernel
theorem dMo_addTo_31 : decode cMo_addTo 31 = .ok (.imul, 1) := by decide +kernel
theorem dMo_addTo_32 : decode cMo_addTo 32 = .ok (.iload 5, 2) := by decide +kernel
theorem dMo_addTo_34 : decode cMo_addTo 34 = .ok (.iadd, 1) := by decide +kernel
theorem dMo_addTo_35 : decode cMo_addTo 35 = .ok (.laload, 1) := by decide +kernel
theorem dMo_addTo_36 : decode cMo_addTo 36 = .ok (.ladd, 1) := by decide +kernel
theorem dMo_addTo_37 : decode cMo_addTo 37 = .ok (.lload_n 3, 1) := by decide +kernel
theorem dMo_addTo_38 : decode cMo_addTo 38 = .ok (.ladd, 1) := by decide +kernel
theorem dMo_addTo_39 : decode cMo_addTo 39 = .ok (.lstore 6, 2) := by decide +kernel
theorem dMo_addTo_41 : decode cMo_addTo 41 = .ok (.aload_n 0, 1) := by decide +kernel
theorem dMo_addTo_42 : decode cMo_addTo 42 = .ok (.getfield 7, 3) := by decide +kernel
theorem dMo_addTo_45 : decode cMo_addTo 45 = .ok (.bipush 64, 2) := by decide +kernel
theorem dMo_addTo_47 : decode cMo_addTo 47 = .ok (.iload_n 1, 1) := by decide +kernel
theorem dMo_addTo_48 : decode cMo_addTo 48 = .ok (.imul, 1) := by decide +kernel
theorem dMo_addTo_49 : decode cMo_addTo 49 = .ok (.iload 5, 2) := by decide +kernel
theorem dMo_addTo_51 : decode cMo_addTo 51 = .ok (.iadd, 1) := by decide +kernel
theorem dMo_addTo_52 : decode cMo_addTo 52 = .ok (.lload 6, 2) := by decide +kernel
theorem dMo_addTo_54 : decode cMo_addTo 54 = .ok (.ldc2_w 123, 3) := by decide +kernel
theorem dMo_addTo_57 : decode cMo_addTo 57 = .ok (.land, 1) := by decide +kernel
theorem dMo_addTo_58 : decode cMo_addTo 58 = .ok (.lastore, 1) := by decide +kernel
theorem dMo_addTo_59 : decode cMo_addTo 59 = .ok (.lload 6, 2) := by decide +kernel
theorem dMo_addTo_61 : decode cMo_addTo 61 = .ok (.bipush 24, 2) := by decide +kernel
theorem dMo_addTo_63 : decode cMo_addTo 63 = .ok (.lshr, 1) := by decide +kernel
theorem dMo_addTo_64 : decode cMo_addTo 64 = .ok (.lstore_n 3, 1) := by decide +kernel
theorem dMo_addTo_65 : decode cMo_addTo 65 = .ok (.iinc 5 1, 3) := by decide +kernel
theorem dMo_addTo_68 : decode cMo_addTo 68 = .ok (.goto (-63), 3) := by decide +kernel
theorem dMo_addTo_71 : decode cMo_addTo 71 = .ok (.return_, 1) := by decide +kernel
theorem dMo_order_0 : decode cMo_order 0 = .ok (.bipush 63, 2) := by decide +kernel
theorem dMo_order_2 : decode cMo_order 2 = .ok (.istore_n 3, 1) := by decide +kernel
theorem dMo_order_3 : decode cMo_order 3 = .ok (.iload_n 3, 1) := by decide +kernel
theorem dMo_order_4 : decode cMo_order 4 = .ok (.ifCond .le 35, 3) := by decide +kernel
theorem dMo_order_7 : decode cMo_order 7 = .ok (.aload_n 0, 1) := by decide +kernel
theorem dMo_order_8 : decode cMo_order 8 = .ok (.getfield 7, 3) := by decide +kernel
theorem dMo_order_11 : decode cMo_order 11 = .ok (.bipush 64, 2) := by decide +kernel
theorem dMo_order_13 : decode cMo_order 13 = .ok (.iload_n 1, 1) := by decide +kernel
theorem dMo_order_14 : decode cMo_order 14 = .ok (.imul, 1) := by decide +kernel
theorem dMo_order_15 : decode cMo_order 15 = .ok (.iload_n 3, 1) := by decide +kernel
theorem dMo_order_16 : decode cMo_order 16 = .ok (.iadd, 1) := by decide +kernel
theorem dMo_order_17 : decode cMo_order 17 = .ok (.laload, 1) := by decide +kernel
theorem dMo_order_18 : decode cMo_order 18 = .ok (.aload_n 0, 1) := by decide +kernel
theorem dMo_order_19 : decode cMo_order 19 = .ok (.getfield 7, 3) := by decide +kernel
theorem dMo_order_22 : decode cMo_order 22 = .ok (.bipush 64, 2) := by decide +kernel
theorem dMo_order_24 : decode cMo_order 24 = .ok (.iload_n 2, 1) := by decide +kernel
theorem dMo_order_25 : decode cMo_order 25 = .ok (.imul, 1) := by decide +kernel
theorem dMo_order_26 : decode cMo_order 26 = .ok (.iload_n 3, 1) := by decide +kernel
theorem dMo_order_27 : decode cMo_order 27 = .ok (.iadd, 1) := by decide +kernel
theorem dMo_order_28 : decode cMo_order 28 = .ok (.laload, 1) := by decide +kernel
theorem dMo_order_29 : decode cMo_order 29 = .ok (.lcmp, 1) := by decide +kernel
theorem dMo_order_30 : decode cMo_order 30 = .ok (.ifCond .ne 9, 3) := by decide +kernel
theorem dMo_order_33 : decode cMo_order 33 = .ok (.iinc 3 (-1), 3) := by decide +kernel
theorem dMo_order_36 : decode cMo_order 36 = .ok (.goto (-33), 3) := by decide +kernel
theorem dMo_order_39 : decode cMo_order 39 = .ok (.aload_n 0, 1) := by decide +kernel
theorem dMo_order_40 : decode cMo_order 40 = .ok (.getfield 7, 3) := by decide +kernel
theorem dMo_order_43 : decode cMo_order 43 = .ok (.bipush 64, 2) := by decide +kernel
theorem dMo_order_45 : decode cMo_order 45 = .ok (.iload_n 1, 1) := by decide +kernel
theorem dMo_order_46 : decode cMo_order 46 = .ok (.imul, 1) := by decide +kernel
theorem dMo_order_47 : decode cMo_order 47 = .ok (.iload_n 3, 1) := by decide +kernel
theorem dMo_order_48 : decode cMo_order 48 = .ok (.iadd, 1) := by decide +kernel
theorem dMo_order_49 : decode cMo_order 49 = .ok (.laload, 1) := by decide +kernel
theorem dMo_order_50 : decode cMo_order 50 = .ok (.aload_n 0, 1) := by decide +kernel
theorem dMo_order_51 : decode cMo_order 51 = .ok (.getfield 7, 3) := by decide +kernel
theorem dMo_order_54 : decode cMo_order 54 = .ok (.bipush 64, 2) := by decide +kernel
theorem dMo_order_56 : decode cMo_order 56 = .ok (.iload_n 2, 1) := by decide +kernel
theorem dMo_order_57 : decode cMo_order 57 = .ok (.imul, 1) := by decide +kernel
theorem dMo_order_58 : decode cMo_order 58 = .ok (.iload_n 3, 1) := by decide +kernel
theorem dMo_order_59 : decode cMo_order 59 = .ok (.iadd, 1) := by decide +kernel
theorem dMo_order_60 : decode cMo_order 60 = .ok (.laload, 1) := by decide +kernel
theorem dMo_order_61 : decode cMo_order 61 = .ok (.lsub, 1) := by decide +kernel
theorem dMo_order_62 : decode cMo_order 62 = .ok (.lstore 4, 2) := by decide +kernel
theorem dMo_order_64 : decode cMo_order 64 = .ok (.lload 4, 2) := by decide +kernel
theorem dMo_order_66 : decode cMo_order 66 = .ok (.lconst 0, 1) := by decide +kernel
theorem dMo_order_67 : decode cMo_order 67 = .ok (.lcmp, 1) := by decide +kernel
theorem dMo_order_68 : decode cMo_order 68 = .ok (.ifCond .ge 7, 3) := by decide +kernel
theorem dMo_order_71 : decode cMo_order 71 = .ok (.iconst (-1), 1) := by decide +kernel
theorem dMo_order_72 : decode cMo_order 72 = .ok (.goto 15, 3) := by decide +kernel
