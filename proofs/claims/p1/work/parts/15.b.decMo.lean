/-! decode rows of the reference, the rest -/
theorem dMo_order_75 : decode cMo_order 75 = .ok (.lload 4, 2) := by decide +kernel
theorem dMo_order_77 : decode cMo_order 77 = .ok (.lconst 0, 1) := by decide +kernel
theorem dMo_order_78 : decode cMo_order 78 = .ok (.lcmp, 1) := by decide +kernel
theorem dMo_order_79 : decode cMo_order 79 = .ok (.ifCond .le 7, 3) := by decide +kernel
theorem dMo_order_82 : decode cMo_order 82 = .ok (.iconst 1, 1) := by decide +kernel
theorem dMo_order_83 : decode cMo_order 83 = .ok (.goto 4, 3) := by decide +kernel
theorem dMo_order_86 : decode cMo_order 86 = .ok (.iconst 0, 1) := by decide +kernel
theorem dMo_order_87 : decode cMo_order 87 = .ok (.ireturn, 1) := by decide +kernel
theorem dMo_takeFrom_0 : decode cMo_takeFrom 0 = .ok (.lconst 0, 1) := by decide +kernel
theorem dMo_takeFrom_1 : decode cMo_takeFrom 1 = .ok (.lstore 6, 2) := by decide +kernel
theorem dMo_takeFrom_3 : decode cMo_takeFrom 3 = .ok (.iconst 0, 1) := by decide +kernel
theorem dMo_takeFrom_4 : decode cMo_takeFrom 4 = .ok (.istore 8, 2) := by decide +kernel
theorem dMo_takeFrom_6 : decode cMo_takeFrom 6 = .ok (.iload 8, 2) := by decide +kernel
theorem dMo_takeFrom_8 : decode cMo_takeFrom 8 = .ok (.iload 5, 2) := by decide +kernel
theorem dMo_takeFrom_10 : decode cMo_takeFrom 10 = .ok (.iadd, 1) := by decide +kernel
theorem dMo_takeFrom_11 : decode cMo_takeFrom 11 = .ok (.bipush 64, 2) := by decide +kernel
theorem dMo_takeFrom_13 : decode cMo_takeFrom 13 = .ok (.if_icmp .ge 72, 3) := by decide +kernel
theorem dMo_takeFrom_16 : decode cMo_takeFrom 16 = .ok (.aload_n 0, 1) := by decide +kernel
theorem dMo_takeFrom_17 : decode cMo_takeFrom 17 = .ok (.getfield 7, 3) := by decide +kernel
theorem dMo_takeFrom_20 : decode cMo_takeFrom 20 = .ok (.bipush 64, 2) := by decide +kernel
theorem dMo_takeFrom_22 : decode cMo_takeFrom 22 = .ok (.iload_n 1, 1) := by decide +kernel
theorem dMo_takeFrom_23 : decode cMo_takeFrom 23 = .ok (.imul, 1) := by decide +kernel
theorem dMo_takeFrom_24 : decode cMo_takeFrom 24 = .ok (.iload 8, 2) := by decide +kernel
theorem dMo_takeFrom_26 : decode cMo_takeFrom 26 = .ok (.iadd, 1) := by decide +kernel
theorem dMo_takeFrom_27 : decode cMo_takeFrom 27 = .ok (.iload 5, 2) := by decide +kernel
theorem dMo_takeFrom_29 : decode cMo_takeFrom 29 = .ok (.iadd, 1) := by decide +kernel
theorem dMo_takeFrom_30 : decode cMo_takeFrom 30 = .ok (.laload, 1) := by decide +kernel
theorem dMo_takeFrom_31 : decode cMo_takeFrom 31 = .ok (.lload_n 3, 1) := by decide +kernel
theorem dMo_takeFrom_32 : decode cMo_takeFrom 32 = .ok (.aload_n 0, 1) := by decide +kernel
theorem dMo_takeFrom_33 : decode cMo_takeFrom 33 = .ok (.getfield 7, 3) := by decide +kernel
theorem dMo_takeFrom_36 : decode cMo_takeFrom 36 = .ok (.bipush 64, 2) := by decide +kernel
theorem dMo_takeFrom_38 : decode cMo_takeFrom 38 = .ok (.iload_n 2, 1) := by decide +kernel
theorem dMo_takeFrom_39 : decode cMo_takeFrom 39 = .ok (.imul, 1) := by decide +kernel
theorem dMo_takeFrom_40 : decode cMo_takeFrom 40 = .ok (.iload 8, 2) := by decide +kernel
theorem dMo_takeFrom_42 : decode cMo_takeFrom 42 = .ok (.iadd, 1) := by decide +kernel
theorem dMo_takeFrom_43 : decode cMo_takeFrom 43 = .ok (.laload, 1) := by decide +kernel
theorem dMo_takeFrom_44 : decode cMo_takeFrom 44 = .ok (.lmul, 1) := by decide +kernel
theorem dMo_takeFrom_45 : decode cMo_takeFrom 45 = .ok (.lsub, 1) := by decide +kernel
theorem dMo_takeFrom_46 : decode cMo_takeFrom 46 = .ok (.lload 6, 2) := by decide +kernel
theorem dMo_takeFrom_48 : decode cMo_takeFrom 48 = .ok (.ladd, 1) := by decide +kernel
theorem dMo_takeFrom_49 : decode cMo_takeFrom 49 = .ok (.lstore 9, 2) := by decide +kernel
theorem dMo_takeFrom_51 : decode cMo_takeFrom 51 = .ok (.aload_n 0, 1) := by decide +kernel
theorem dMo_takeFrom_52 : decode cMo_takeFrom 52 = .ok (.getfield 7, 3) := by decide +kernel
theorem dMo_takeFrom_55 : decode cMo_takeFrom 55 = .ok (.bipush 64, 2) := by decide +kernel
theorem dMo_takeFrom_57 : decode cMo_takeFrom 57 = .ok (.iload_n 1, 1) := by decide +kernel
theorem dMo_takeFrom_58 : decode cMo_takeFrom 58 = .ok (.imul, 1) := by decide +kernel
theorem dMo_takeFrom_59 : decode cMo_takeFrom 59 = .ok (.iload 8, 2) := by decide +kernel
theorem dMo_takeFrom_61 : decode cMo_takeFrom 61 = .ok (.iadd, 1) := by decide +kernel
theorem dMo_takeFrom_62 : decode cMo_takeFrom 62 = .ok (.iload 5, 2) := by decide +kernel
theorem dMo_takeFrom_64 : decode cMo_takeFrom 64 = .ok (.iadd, 1) := by decide +kernel
theorem dMo_takeFrom_65 : decode cMo_takeFrom 65 = .ok (.lload 9, 2) := by decide +kernel
theorem dMo_takeFrom_67 : decode cMo_takeFrom 67 = .ok (.ldc2_w 123, 3) := by decide +kernel
theorem dMo_takeFrom_70 : decode cMo_takeFrom 70 = .ok (.land, 1) := by decide +kernel
theorem dMo_takeFrom_71 : decode cMo_takeFrom 71 = .ok (.lastore, 1) := by decide +kernel
theorem dMo_takeFrom_72 : decode cMo_takeFrom 72 = .ok (.lload 9, 2) := by decide +kernel
theorem dMo_takeFrom_74 : decode cMo_takeFrom 74 = .ok (.bipush 24, 2) := by decide +kernel
theorem dMo_takeFrom_76 : decode cMo_takeFrom 76 = .ok (.lshr, 1) := by decide +kernel
theorem dMo_takeFrom_77 : decode cMo_takeFrom 77 = .ok (.lstore 6, 2) := by decide +kernel
theorem dMo_takeFrom_79 : decode cMo_takeFrom 79 = .ok (.iinc 8 1, 3) := by decide +kernel
theorem dMo_takeFrom_82 : decode cMo_takeFrom 82 = .ok (.goto (-76), 3) := by decide +kernel
theorem dMo_takeFrom_85 : decode cMo_takeFrom 85 = .ok (.return_, 1) := by decide +kernel
theorem dMo_isGreat_0 : decode cMo_isGreat 0 = .ok (.aload_n 0, 1) := by decide +kernel
theorem dMo_isGreat_1 : decode cMo_isGreat 1 = .ok (.iload_n 1, 1) := by decide +kernel
theorem dMo_isGreat_2 : decode cMo_isGreat 2 = .ok (.invokevirtual 128, 3) := by decide +kernel
theorem dMo_isGreat_5 : decode cMo_isGreat 5 = .ok (.bipush 32, 2) := by decide +kernel
theorem dMo_isGreat_7 : decode cMo_isGreat 7 = .ok (.if_icmp .le 7, 3) := by decide +kernel
theorem dMo_isGreat_10 : decode cMo_isGreat 10 = .ok (.iconst 1, 1) := by decide +kernel
theorem dMo_isGreat_11 : decode cMo_isGreat 11 = .ok (.goto 4, 3) := by decide +kernel
theorem dMo_isGreat_14 : decode cMo_isGreat 14 = .ok (.iconst 0, 1) := by decide +kernel
theorem dMo_isGreat_15 : decode cMo_isGreat 15 = .ok (.ireturn, 1) := by decide +kernel
theorem dMo_limbs_0 : decode cMo_limbs 0 = .ok (.bipush 64, 2) := by decide +kernel
theorem dMo_limbs_2 : decode cMo_limbs 2 = .ok (.istore_n 2, 1) := by decide +kernel
theorem dMo_limbs_3 : decode cMo_limbs 3 = .ok (.iload_n 2, 1) := by decide +kernel
theorem dMo_limbs_4 : decode cMo_limbs 4 = .ok (.ifCond .le 27, 3) := by decide +kernel
theorem dMo_limbs_7 : decode cMo_limbs 7 = .ok (.aload_n 0, 1) := by decide +kernel
theorem dMo_limbs_8 : decode cMo_limbs 8 = .ok (.getfield 7, 3) := by decide +kernel
theorem dMo_limbs_11 : decode cMo_limbs 11 = .ok (.bipush 64, 2) := by decide +kernel
theorem dMo_limbs_13 : decode cMo_limbs 13 = .ok (.iload_n 1, 1) := by decide +kernel
theorem dMo_limbs_14 : decode cMo_limbs 14 = .ok (.imul, 1) := by decide +kernel
theorem dMo_limbs_15 : decode cMo_limbs 15 = .ok (.iload_n 2, 1) := by decide +kernel
theorem dMo_limbs_16 : decode cMo_limbs 16 = .ok (.iadd, 1) := by decide +kernel
theorem dMo_limbs_17 : decode cMo_limbs 17 = .ok (.iconst 1, 1) := by decide +kernel
theorem dMo_limbs_18 : decode cMo_limbs 18 = .ok (.isub, 1) := by decide +kernel
theorem dMo_limbs_19 : decode cMo_limbs 19 = .ok (.laload, 1) := by decide +kernel
theorem dMo_limbs_20 : decode cMo_limbs 20 = .ok (.lconst 0, 1) := by decide +kernel
theorem dMo_limbs_21 : decode cMo_limbs 21 = .ok (.lcmp, 1) := by decide +kernel
theorem dMo_limbs_22 : decode cMo_limbs 22 = .ok (.ifCond .ne 9, 3) := by decide +kernel
theorem dMo_limbs_25 : decode cMo_limbs 25 = .ok (.iinc 2 (-1), 3) := by decide +kernel
theorem dMo_limbs_28 : decode cMo_limbs 28 = .ok (.goto (-25), 3) := by decide +kernel
theorem dMo_limbs_31 : decode cMo_limbs 31 = .ok (.iload_n 2, 1) := by decide +kernel
theorem dMo_limbs_32 : decode cMo_limbs 32 = .ok (.ireturn, 1) := by decide +kernel
theorem dMo_product_0 : decode cMo_product 0 = .ok (.aload_n 0, 1) := by decide +kernel
theorem dMo_product_1 : decode cMo_product 1 = .ok (.getfield 13, 3) := by decide +kernel
theorem dMo_product_4 : decode cMo_product 4 = .ok (.iload_n 1, 1) := by decide +kernel
theorem dMo_product_5 : decode cMo_product 5 = .ok (.iaload, 1) := by decide +kernel
theorem dMo_product_6 : decode cMo_product 6 = .ok (.aload_n 0, 1) := by decide +kernel
theorem dMo_product_7 : decode cMo_product 7 = .ok (.getfield 13, 3) := by decide +kernel
theorem dMo_product_10 : decode cMo_product 10 = .ok (.iload_n 2, 1) := by decide +kernel
theorem dMo_product_11 : decode cMo_product 11 = .ok (.iaload, 1) := by decide +kernel
theorem dMo_product_12 : decode cMo_product 12 = .ok (.imul, 1) := by decide +kernel
theorem dMo_product_13 : decode cMo_product 13 = .ok (.istore_n 3, 1) := by decide +kernel
theorem dMo_product_14 : decode cMo_product 14 = .ok (.aload_n 0, 1) := by decide +kernel
theorem dMo_product_15 : decode cMo_product 15 = .ok (.iload_n 1, 1) := by decide +kernel
theorem dMo_product_16 : decode cMo_product 16 = .ok (.iload_n 2, 1) := by decide +kernel
theorem dMo_product_17 : decode cMo_product 17 = .ok (.bipush 21, 2) := by decide +kernel
theorem dMo_product_19 : decode cMo_product 19 = .ok (.invokevirtual 155, 3) := by decide +kernel
theorem dMo_product_22 : decode cMo_product 22 = .ok (.aload_n 0, 1) := by decide +kernel
theorem dMo_product_23 : decode cMo_product 23 = .ok (.bipush 21, 2) := by decide +kernel
theorem dMo_product_25 : decode cMo_product 25 = .ok (.iload_n 1, 1) := by decide +kernel
theorem dMo_product_26 : decode cMo_product 26 = .ok (.invokevirtual 143, 3) := by decide +kernel
theorem dMo_product_29 : decode cMo_product 29 = .ok (.aload_n 0, 1) := by decide +kernel
theorem dMo_product_30 : decode cMo_product 30 = .ok (.getfield 13, 3) := by decide +kernel
theorem dMo_product_33 : decode cMo_product 33 = .ok (.iload_n 1, 1) := by decide +kernel
theorem dMo_product_34 : decode cMo_product 34 = .ok (.iload_n 3, 1) := by decide +kernel
theorem dMo_product_35 : decode cMo_product 35 = .ok (.iastore, 1) := by decide +kernel
theorem dMo_product_36 : decode cMo_product 36 = .ok (.aload_n 0, 1) := by decide +kernel
theorem dMo_product_37 : decode cMo_product 37 = .ok (.iload_n 1, 1) := by decide +kernel
theorem dMo_product_38 : decode cMo_product 38 = .ok (.invokevirtual 152, 3) := by decide +kernel
theorem dMo_product_41 : decode cMo_product 41 = .ok (.ifCond .eq 8, 3) := by decide +kernel
theorem dMo_product_44 : decode cMo_product 44 = .ok (.bipush 6, 2) := by decide +kernel
theorem dMo_product_46 : decode cMo_product 46 = .ok (.goto 4, 3) := by decide +kernel
theorem dMo_product_49 : decode cMo_product 49 = .ok (.iconst 0, 1) := by decide +kernel
theorem dMo_product_50 : decode cMo_product 50 = .ok (.ireturn, 1) := by decide +kernel
theorem dMo_multiply_0 : decode cMo_multiply 0 = .ok (.aload_n 0, 1) := by decide +kernel
theorem dMo_multiply_1 : decode cMo_multiply 1 = .ok (.iload_n 3, 1) := by decide +kernel
theorem dMo_multiply_2 : decode cMo_multiply 2 = .ok (.invokevirtual 125, 3) := by decide +kernel
theorem dMo_multiply_5 : decode cMo_multiply 5 = .ok (.aload_n 0, 1) := by decide +kernel
theorem dMo_multiply_6 : decode cMo_multiply 6 = .ok (.iload_n 1, 1) := by decide +kernel
theorem dMo_multiply_7 : decode cMo_multiply 7 = .ok (.invokevirtual 128, 3) := by decide +kernel
theorem dMo_multiply_10 : decode cMo_multiply 10 = .ok (.istore 4, 2) := by decide +kernel
theorem dMo_multiply_12 : decode cMo_multiply 12 = .ok (.aload_n 0, 1) := by decide +kernel
theorem dMo_multiply_13 : decode cMo_multiply 13 = .ok (.iload_n 2, 1) := by decide +kernel
theorem dMo_multiply_14 : decode cMo_multiply 14 = .ok (.invokevirtual 128, 3) := by decide +kernel
theorem dMo_multiply_17 : decode cMo_multiply 17 = .ok (.istore 5, 2) := by decide +kernel
theorem dMo_multiply_19 : decode cMo_multiply 19 = .ok (.iconst 0, 1) := by decide +kernel
theorem dMo_multiply_20 : decode cMo_multiply 20 = .ok (.istore 6, 2) := by decide +kernel
theorem dMo_multiply_22 : decode cMo_multiply 22 = .ok (.iload 6, 2) := by decide +kernel
theorem dMo_multiply_24 : decode cMo_multiply 24 = .ok (.iload 4, 2) := by decide +kernel
theorem dMo_multiply_26 : decode cMo_multiply 26 = .ok (.if_icmp .ge 123, 3) := by decide +kernel
theorem dMo_multiply_29 : decode cMo_multiply 29 = .ok (.lconst 0, 1) := by decide +kernel
theorem dMo_multiply_30 : decode cMo_multiply 30 = .ok (.lstore 7, 2) := by decide +kernel
theorem dMo_multiply_32 : decode cMo_multiply 32 = .ok (.aload_n 0, 1) := by decide +kernel
theorem dMo_multiply_33 : decode cMo_multiply 33 = .ok (.getfield 7, 3) := by decide +kernel
theorem dMo_multiply_36 : decode cMo_multiply 36 = .ok (.bipush 64, 2) := by decide +kernel
theorem dMo_multiply_38 : decode cMo_multiply 38 = .ok (.iload_n 1, 1) := by decide +kernel
theorem dMo_multiply_39 : decode cMo_multiply 39 = .ok (.imul, 1) := by decide +kernel
theorem dMo_multiply_40 : decode cMo_multiply 40 = .ok (.iload 6, 2) := by decide +kernel
theorem dMo_multiply_42 : decode cMo_multiply 42 = .ok (.iadd, 1) := by decide +kernel
theorem dMo_multiply_43 : decode cMo_multiply 43 = .ok (.laload, 1) := by decide +kernel
theorem dMo_multiply_44 : decode cMo_multiply 44 = .ok (.lstore 9, 2) := by decide +kernel
theorem dMo_multiply_46 : decode cMo_multiply 46 = .ok (.iconst 0, 1) := by decide +kernel
theorem dMo_multiply_47 : decode cMo_multiply 47 = .ok (.istore 11, 2) := by decide +kernel
theorem dMo_multiply_49 : decode cMo_multiply 49 = .ok (.iload 11, 2) := by decide +kernel
theorem dMo_multiply_51 : decode cMo_multiply 51 = .ok (.iload 5, 2) := by decide +kernel
theorem dMo_multiply_53 : decode cMo_multiply 53 = .ok (.if_icmp .ge 73, 3) := by decide +kernel
theorem dMo_multiply_56 : decode cMo_multiply 56 = .ok (.aload_n 0, 1) := by decide +kernel
theorem dMo_multiply_57 : decode cMo_multiply 57 = .ok (.getfield 7, 3) := by decide +kernel
theorem dMo_multiply_60 : decode cMo_multiply 60 = .ok (.bipush 64, 2) := by decide +kernel
theorem dMo_multiply_62 : decode cMo_multiply 62 = .ok (.iload_n 3, 1) := by decide +kernel
theorem dMo_multiply_63 : decode cMo_multiply 63 = .ok (.imul, 1) := by decide +kernel
theorem dMo_multiply_64 : decode cMo_multiply 64 = .ok (.iload 6, 2) := by decide +kernel
theorem dMo_multiply_66 : decode cMo_multiply 66 = .ok (.iadd, 1) := by decide +kernel
theorem dMo_multiply_67 : decode cMo_multiply 67 = .ok (.iload 11, 2) := by decide +kernel
theorem dMo_multiply_69 : decode cMo_multiply 69 = .ok (.iadd, 1) := by decide +kernel
theorem dMo_multiply_70 : decode cMo_multiply 70 = .ok (.laload, 1) := by decide +kernel
theorem dMo_multiply_71 : decode cMo_multiply 71 = .ok (.lload 9, 2) := by decide +kernel
theorem dMo_multiply_73 : decode cMo_multiply 73 = .ok (.aload_n 0, 1) := by decide +kernel
theorem dMo_multiply_74 : decode cMo_multiply 74 = .ok (.getfield 7, 3) := by decide +kernel
theorem dMo_multiply_77 : decode cMo_multiply 77 = .ok (.bipush 64, 2) := by decide +kernel
theorem dMo_multiply_79 : decode cMo_multiply 79 = .ok (.iload_n 2, 1) := by decide +kernel
theorem dMo_multiply_80 : decode cMo_multiply 80 = .ok (.imul, 1) := by decide +kernel
theorem dMo_multiply_81 : decode cMo_multiply 81 = .ok (.iload 11, 2) := by decide +kernel
theorem dMo_multiply_83 : decode cMo_multiply 83 = .ok (.iadd, 1) := by decide +kernel
theorem dMo_multiply_84 : decode cMo_multiply 84 = .ok (.laload, 1) := by decide +kernel
theorem dMo_multiply_85 : decode cMo_multiply 85 = .ok (.lmul, 1) := by decide +kernel
theorem dMo_multiply_86 : decode cMo_multiply 86 = .ok (.ladd, 1) := by decide +kernel
theorem dMo_multiply_87 : decode cMo_multiply 87 = .ok (.lload 7, 2) := by decide +kernel
theorem dMo_multiply_89 : decode cMo_multiply 89 = .ok (.ladd, 1) := by decide +kernel
theorem dMo_multiply_90 : decode cMo_multiply 90 = .ok (.lstore 12, 2) := by decide +kernel
theorem dMo_multiply_92 : decode cMo_multiply 92 = .ok (.aload_n 0, 1) := by decide +kernel
theorem dMo_multiply_93 : decode cMo_multiply 93 = .ok (.getfield 7, 3) := by decide +kernel
theorem dMo_multiply_96 : decode cMo_multiply 96 = .ok (.bipush 64, 2) := by decide +kernel
theorem dMo_multiply_98 : decode cMo_multiply 98 = .ok (.iload_n 3, 1) := by decide +kernel
theorem dMo_multiply_99 : decode cMo_multiply 99 = .ok (.imul, 1) := by decide +kernel
theorem dMo_multiply_100 : decode cMo_multiply 100 = .ok (.iload 6, 2) := by decide +kernel
theorem dMo_multiply_102 : decode cMo_multiply 102 = .ok (.iadd, 1) := by decide +kernel
theorem dMo_multiply_103 : decode cMo_multiply 103 = .ok (.iload 11, 2) := by decide +kernel
theorem dMo_multiply_105 : decode cMo_multiply 105 = .ok (.iadd, 1) := by decide +kernel
theorem dMo_multiply_106 : decode cMo_multiply 106 = .ok (.lload 12, 2) := by decide +kernel
theorem dMo_multiply_108 : decode cMo_multiply 108 = .ok (.ldc2_w 123, 3) := by decide +kernel
theorem dMo_multiply_111 : decode cMo_multiply 111 = .ok (.land, 1) := by decide +kernel
theorem dMo_multiply_112 : decode cMo_multiply 112 = .ok (.lastore, 1) := by decide +kernel
theorem dMo_multiply_113 : decode cMo_multiply 113 = .ok (.lload 12, 2) := by decide +kernel
theorem dMo_multiply_115 : decode cMo_multiply 115 = .ok (.bipush 24, 2) := by decide +kernel
theorem dMo_multiply_117 : decode cMo_multiply 117 = .ok (.lshr, 1) := by decide +kernel
theorem dMo_multiply_118 : decode cMo_multiply 118 = .ok (.lstore 7, 2) := by decide +kernel
theorem dMo_multiply_120 : decode cMo_multiply 120 = .ok (.iinc 11 1, 3) := by decide +kernel
theorem dMo_multiply_123 : decode cMo_multiply 123 = .ok (.goto (-74), 3) := by decide +kernel
theorem dMo_multiply_126 : decode cMo_multiply 126 = .ok (.aload_n 0, 1) := by decide +kernel
theorem dMo_multiply_127 : decode cMo_multiply 127 = .ok (.getfield 7, 3) := by decide +kernel
theorem dMo_multiply_130 : decode cMo_multiply 130 = .ok (.bipush 64, 2) := by decide +kernel
theorem dMo_multiply_132 : decode cMo_multiply 132 = .ok (.iload_n 3, 1) := by decide +kernel
theorem dMo_multiply_133 : decode cMo_multiply 133 = .ok (.imul, 1) := by decide +kernel
theorem dMo_multiply_134 : decode cMo_multiply 134 = .ok (.iload 6, 2) := by decide +kernel
theorem dMo_multiply_136 : decode cMo_multiply 136 = .ok (.iadd, 1) := by decide +kernel
theorem dMo_multiply_137 : decode cMo_multiply 137 = .ok (.iload 5, 2) := by decide +kernel
theorem dMo_multiply_139 : decode cMo_multiply 139 = .ok (.iadd, 1) := by decide +kernel
theorem dMo_multiply_140 : decode cMo_multiply 140 = .ok (.lload 7, 2) := by decide +kernel
theorem dMo_multiply_142 : decode cMo_multiply 142 = .ok (.lastore, 1) := by decide +kernel
theorem dMo_multiply_143 : decode cMo_multiply 143 = .ok (.iinc 6 1, 3) := by decide +kernel
theorem dMo_multiply_146 : decode cMo_multiply 146 = .ok (.goto (-124), 3) := by decide +kernel
theorem dMo_multiply_149 : decode cMo_multiply 149 = .ok (.return_, 1) := by decide +kernel
theorem dMo_quotient_0 : decode cMo_quotient 0 = .ok (.aload_n 0, 1) := by decide +kernel
theorem dMo_quotient_1 : decode cMo_quotient 1 = .ok (.getfield 13, 3) := by decide +kernel
theorem dMo_quotient_4 : decode cMo_quotient 4 = .ok (.iload_n 2, 1) := by decide +kernel
theorem dMo_quotient_5 : decode cMo_quotient 5 = .ok (.iaload, 1) := by decide +kernel
theorem dMo_quotient_6 : decode cMo_quotient 6 = .ok (.ifCond .ne 5, 3) := by decide +kernel
theorem dMo_quotient_9 : decode cMo_quotient 9 = .ok (.iconst 2, 1) := by decide +kernel
theorem dMo_quotient_10 : decode cMo_quotient 10 = .ok (.ireturn, 1) := by decide +kernel
theorem dMo_quotient_11 : decode cMo_quotient 11 = .ok (.aload_n 0, 1) := by decide +kernel
theorem dMo_quotient_12 : decode cMo_quotient 12 = .ok (.getfield 13, 3) := by decide +kernel
theorem dMo_quotient_15 : decode cMo_quotient 15 = .ok (.iload_n 1, 1) := by decide +kernel
theorem dMo_quotient_16 : decode cMo_quotient 16 = .ok (.iaload, 1) := by decide +kernel
theorem dMo_quotient_17 : decode cMo_quotient 17 = .ok (.aload_n 0, 1) := by decide +kernel
theorem dMo_quotient_18 : decode cMo_quotient 18 = .ok (.getfield 13, 3) := by decide +kernel
theorem dMo_quotient_21 : decode cMo_quotient 21 = .ok (.iload_n 2, 1) := by decide +kernel
theorem dMo_quotient_22 : decode cMo_quotient 22 = .ok (.iaload, 1) := by decide +kernel
theorem dMo_quotient_23 : decode cMo_quotient 23 = .ok (.imul, 1) := by decide +kernel
theorem dMo_quotient_24 : decode cMo_quotient 24 = .ok (.ifCond .ge 7, 3) := by decide +kernel
theorem dMo_quotient_27 : decode cMo_quotient 27 = .ok (.iconst 1, 1) := by decide +kernel
theorem dMo_quotient_28 : decode cMo_quotient 28 = .ok (.goto 4, 3) := by decide +kernel
theorem dMo_quotient_31 : decode cMo_quotient 31 = .ok (.iconst 0, 1) := by decide +kernel
theorem dMo_quotient_32 : decode cMo_quotient 32 = .ok (.istore 4, 2) := by decide +kernel
theorem dMo_quotient_34 : decode cMo_quotient 34 = .ok (.aload_n 0, 1) := by decide +kernel
theorem dMo_quotient_35 : decode cMo_quotient 35 = .ok (.iload_n 1, 1) := by decide +kernel
theorem dMo_quotient_36 : decode cMo_quotient 36 = .ok (.iload_n 2, 1) := by decide +kernel
theorem dMo_quotient_37 : decode cMo_quotient 37 = .ok (.invokevirtual 159, 3) := by decide +kernel
theorem dMo_quotient_40 : decode cMo_quotient 40 = .ok (.aload_n 0, 1) := by decide +kernel
theorem dMo_quotient_41 : decode cMo_quotient 41 = .ok (.iload_n 1, 1) := by decide +kernel
theorem dMo_quotient_42 : decode cMo_quotient 42 = .ok (.invokevirtual 128, 3) := by decide +kernel
theorem dMo_quotient_45 : decode cMo_quotient 45 = .ok (.ifCond .le 7, 3) := by decide +kernel
theorem dMo_quotient_48 : decode cMo_quotient 48 = .ok (.iconst 1, 1) := by decide +kernel
theorem dMo_quotient_49 : decode cMo_quotient 49 = .ok (.goto 4, 3) := by decide +kernel
theorem dMo_quotient_52 : decode cMo_quotient 52 = .ok (.iconst 0, 1) := by decide +kernel
theorem dMo_quotient_53 : decode cMo_quotient 53 = .ok (.istore 5, 2) := by decide +kernel
theorem dMo_quotient_55 : decode cMo_quotient 55 = .ok (.iload_n 3, 1) := by decide +kernel
theorem dMo_quotient_56 : decode cMo_quotient 56 = .ok (.ifCond .eq 59, 3) := by decide +kernel
theorem dMo_quotient_59 : decode cMo_quotient 59 = .ok (.iload 4, 2) := by decide +kernel
theorem dMo_quotient_61 : decode cMo_quotient 61 = .ok (.ifCond .eq 31, 3) := by decide +kernel
theorem dMo_quotient_64 : decode cMo_quotient 64 = .ok (.iload 5, 2) := by decide +kernel
theorem dMo_quotient_66 : decode cMo_quotient 66 = .ok (.ifCond .eq 26, 3) := by decide +kernel
theorem dMo_quotient_69 : decode cMo_quotient 69 = .ok (.aload_n 0, 1) := by decide +kernel
theorem dMo_quotient_70 : decode cMo_quotient 70 = .ok (.iload_n 2, 1) := by decide +kernel
theorem dMo_quotient_71 : decode cMo_quotient 71 = .ok (.bipush 18, 2) := by decide +kernel
theorem dMo_quotient_73 : decode cMo_quotient 73 = .ok (.invokevirtual 143, 3) := by decide +kernel
theorem dMo_quotient_76 : decode cMo_quotient 76 = .ok (.aload_n 0, 1) := by decide +kernel
theorem dMo_quotient_77 : decode cMo_quotient 77 = .ok (.bipush 18, 2) := by decide +kernel
theorem dMo_quotient_79 : decode cMo_quotient 79 = .ok (.iload_n 1, 1) := by decide +kernel
theorem dMo_quotient_80 : decode cMo_quotient 80 = .ok (.lconst 1, 1) := by decide +kernel
theorem dMo_quotient_81 : decode cMo_quotient 81 = .ok (.iconst 0, 1) := by decide +kernel
theorem dMo_quotient_82 : decode cMo_quotient 82 = .ok (.invokevirtual 135, 3) := by decide +kernel
theorem dMo_quotient_85 : decode cMo_quotient 85 = .ok (.aload_n 0, 1) := by decide +kernel
theorem dMo_quotient_86 : decode cMo_quotient 86 = .ok (.bipush 18, 2) := by decide +kernel
theorem dMo_quotient_88 : decode cMo_quotient 88 = .ok (.iload_n 1, 1) := by decide +kernel
theorem dMo_quotient_89 : decode cMo_quotient 89 = .ok (.invokevirtual 143, 3) := by decide +kernel
theorem dMo_quotient_92 : decode cMo_quotient 92 = .ok (.aload_n 0, 1) := by decide +kernel
theorem dMo_quotient_93 : decode cMo_quotient 93 = .ok (.getfield 13, 3) := by decide +kernel
theorem dMo_quotient_96 : decode cMo_quotient 96 = .ok (.iload_n 1, 1) := by decide +kernel
theorem dMo_quotient_97 : decode cMo_quotient 97 = .ok (.iload 5, 2) := by decide +kernel
theorem dMo_quotient_99 : decode cMo_quotient 99 = .ok (.ifCond .eq 12, 3) := by decide +kernel
theorem dMo_quotient_102 : decode cMo_quotient 102 = .ok (.aload_n 0, 1) := by decide +kernel
theorem dMo_quotient_103 : decode cMo_quotient 103 = .ok (.getfield 13, 3) := by decide +kernel
theorem dMo_quotient_106 : decode cMo_quotient 106 = .ok (.iload_n 2, 1) := by decide +kernel
theorem dMo_quotient_107 : decode cMo_quotient 107 = .ok (.iaload, 1) := by decide +kernel
theorem dMo_quotient_108 : decode cMo_quotient 108 = .ok (.goto 4, 3) := by decide +kernel
theorem dMo_quotient_111 : decode cMo_quotient 111 = .ok (.iconst 0, 1) := by decide +kernel
theorem dMo_quotient_112 : decode cMo_quotient 112 = .ok (.iastore, 1) := by decide +kernel
theorem dMo_quotient_113 : decode cMo_quotient 113 = .ok (.iconst 0, 1) := by decide +kernel
theorem dMo_quotient_114 : decode cMo_quotient 114 = .ok (.ireturn, 1) := by decide +kernel
theorem dMo_quotient_115 : decode cMo_quotient 115 = .ok (.iload 4, 2) := by decide +kernel
theorem dMo_quotient_117 : decode cMo_quotient 117 = .ok (.ifCond .eq 16, 3) := by decide +kernel
theorem dMo_quotient_120 : decode cMo_quotient 120 = .ok (.iload 5, 2) := by decide +kernel
theorem dMo_quotient_122 : decode cMo_quotient 122 = .ok (.ifCond .eq 11, 3) := by decide +kernel
theorem dMo_quotient_125 : decode cMo_quotient 125 = .ok (.aload_n 0, 1) := by decide +kernel
theorem dMo_quotient_126 : decode cMo_quotient 126 = .ok (.bipush 20, 2) := by decide +kernel
theorem dMo_quotient_128 : decode cMo_quotient 128 = .ok (.bipush 23, 2) := by decide +kernel
theorem dMo_quotient_130 : decode cMo_quotient 130 = .ok (.invokevirtual 146, 3) := by decide +kernel
theorem dMo_quotient_133 : decode cMo_quotient 133 = .ok (.aload_n 0, 1) := by decide +kernel
theorem dMo_quotient_134 : decode cMo_quotient 134 = .ok (.bipush 20, 2) := by decide +kernel
theorem dMo_quotient_136 : decode cMo_quotient 136 = .ok (.iload_n 1, 1) := by decide +kernel
theorem dMo_quotient_137 : decode cMo_quotient 137 = .ok (.invokevirtual 143, 3) := by decide +kernel
theorem dMo_quotient_140 : decode cMo_quotient 140 = .ok (.aload_n 0, 1) := by decide +kernel
theorem dMo_quotient_141 : decode cMo_quotient 141 = .ok (.getfield 13, 3) := by decide +kernel
theorem dMo_quotient_144 : decode cMo_quotient 144 = .ok (.iload_n 1, 1) := by decide +kernel
theorem dMo_quotient_145 : decode cMo_quotient 145 = .ok (.aload_n 0, 1) := by decide +kernel
theorem dMo_quotient_146 : decode cMo_quotient 146 = .ok (.iload_n 1, 1) := by decide +kernel
theorem dMo_quotient_147 : decode cMo_quotient 147 = .ok (.invokevirtual 128, 3) := by decide +kernel
theorem dMo_quotient_150 : decode cMo_quotient 150 = .ok (.ifCond .ne 7, 3) := by decide +kernel
theorem dMo_quotient_153 : decode cMo_quotient 153 = .ok (.iconst 0, 1) := by decide +kernel
theorem dMo_quotient_154 : decode cMo_quotient 154 = .ok (.goto 13, 3) := by decide +kernel
theorem dMo_quotient_157 : decode cMo_quotient 157 = .ok (.iload 4, 2) := by decide +kernel
theorem dMo_quotient_159 : decode cMo_quotient 159 = .ok (.ifCond .eq 7, 3) := by decide +kernel
theorem dMo_quotient_162 : decode cMo_quotient 162 = .ok (.iconst (-1), 1) := by decide +kernel
theorem dMo_quotient_163 : decode cMo_quotient 163 = .ok (.goto 4, 3) := by decide +kernel
theorem dMo_quotient_166 : decode cMo_quotient 166 = .ok (.iconst 1, 1) := by decide +kernel
theorem dMo_quotient_167 : decode cMo_quotient 167 = .ok (.iastore, 1) := by decide +kernel
theorem dMo_quotient_168 : decode cMo_quotient 168 = .ok (.iconst 0, 1) := by decide +kernel
theorem dMo_quotient_169 : decode cMo_quotient 169 = .ok (.ireturn, 1) := by decide +kernel
theorem dMo_divide_0 : decode cMo_divide 0 = .ok (.aload_n 0, 1) := by decide +kernel
theorem dMo_divide_1 : decode cMo_divide 1 = .ok (.bipush 20, 2) := by decide +kernel
theorem dMo_divide_3 : decode cMo_divide 3 = .ok (.invokevirtual 125, 3) := by decide +kernel
theorem dMo_divide_6 : decode cMo_divide 6 = .ok (.aload_n 0, 1) := by decide +kernel
theorem dMo_divide_7 : decode cMo_divide 7 = .ok (.iload_n 2, 1) := by decide +kernel
theorem dMo_divide_8 : decode cMo_divide 8 = .ok (.invokevirtual 128, 3) := by decide +kernel
theorem dMo_divide_11 : decode cMo_divide 11 = .ok (.istore_n 3, 1) := by decide +kernel
theorem dMo_divide_12 : decode cMo_divide 12 = .ok (.aload_n 0, 1) := by decide +kernel
theorem dMo_divide_13 : decode cMo_divide 13 = .ok (.getfield 7, 3) := by decide +kernel
theorem dMo_divide_16 : decode cMo_divide 16 = .ok (.bipush 64, 2) := by decide +kernel
theorem dMo_divide_18 : decode cMo_divide 18 = .ok (.iload_n 2, 1) := by decide +kernel
theorem dMo_divide_19 : decode cMo_divide 19 = .ok (.imul, 1) := by decide +kernel
theorem dMo_divide_20 : decode cMo_divide 20 = .ok (.iload_n 3, 1) := by decide +kernel
theorem dMo_divide_21 : decode cMo_divide 21 = .ok (.iadd, 1) := by decide +kernel
theorem dMo_divide_22 : decode cMo_divide 22 = .ok (.iconst 1, 1) := by decide +kernel
theorem dMo_divide_23 : decode cMo_divide 23 = .ok (.isub, 1) := by decide +kernel
theorem dMo_divide_24 : decode cMo_divide 24 = .ok (.laload, 1) := by decide +kernel
theorem dMo_divide_25 : decode cMo_divide 25 = .ok (.lconst 1, 1) := by decide +kernel
theorem dMo_divide_26 : decode cMo_divide 26 = .ok (.ladd, 1) := by decide +kernel
theorem dMo_divide_27 : decode cMo_divide 27 = .ok (.lstore 4, 2) := by decide +kernel
theorem dMo_divide_29 : decode cMo_divide 29 = .ok (.aload_n 0, 1) := by decide +kernel
theorem dMo_divide_30 : decode cMo_divide 30 = .ok (.iload_n 1, 1) := by decide +kernel
theorem dMo_divide_31 : decode cMo_divide 31 = .ok (.invokevirtual 128, 3) := by decide +kernel
theorem dMo_divide_34 : decode cMo_divide 34 = .ok (.iload_n 3, 1) := by decide +kernel
theorem dMo_divide_35 : decode cMo_divide 35 = .ok (.isub, 1) := by decide +kernel
theorem dMo_divide_36 : decode cMo_divide 36 = .ok (.istore 6, 2) := by decide +kernel
theorem dMo_divide_38 : decode cMo_divide 38 = .ok (.iload 6, 2) := by decide +kernel
theorem dMo_divide_40 : decode cMo_divide 40 = .ok (.ifCond .lt 121, 3) := by decide +kernel
theorem dMo_divide_43 : decode cMo_divide 43 = .ok (.aload_n 0, 1) := by decide +kernel
theorem dMo_divide_44 : decode cMo_divide 44 = .ok (.iload_n 1, 1) := by decide +kernel
theorem dMo_divide_45 : decode cMo_divide 45 = .ok (.iload_n 2, 1) := by decide +kernel
theorem dMo_divide_46 : decode cMo_divide 46 = .ok (.iload_n 3, 1) := by decide +kernel
theorem dMo_divide_47 : decode cMo_divide 47 = .ok (.iload 6, 2) := by decide +kernel
theorem dMo_divide_49 : decode cMo_divide 49 = .ok (.invokevirtual 131, 3) := by decide +kernel
theorem dMo_divide_52 : decode cMo_divide 52 = .ok (.ifCond .eq 103, 3) := by decide +kernel
theorem dMo_divide_55 : decode cMo_divide 55 = .ok (.iload 6, 2) := by decide +kernel
theorem dMo_divide_57 : decode cMo_divide 57 = .ok (.iload_n 3, 1) := by decide +kernel
theorem dMo_divide_58 : decode cMo_divide 58 = .ok (.iadd, 1) := by decide +kernel
theorem dMo_divide_59 : decode cMo_divide 59 = .ok (.bipush 64, 2) := by decide +kernel
theorem dMo_divide_61 : decode cMo_divide 61 = .ok (.if_icmp .ge 23, 3) := by decide +kernel
theorem dMo_divide_64 : decode cMo_divide 64 = .ok (.aload_n 0, 1) := by decide +kernel
theorem dMo_divide_65 : decode cMo_divide 65 = .ok (.getfield 7, 3) := by decide +kernel
theorem dMo_divide_68 : decode cMo_divide 68 = .ok (.bipush 64, 2) := by decide +kernel
theorem dMo_divide_70 : decode cMo_divide 70 = .ok (.iload_n 1, 1) := by decide +kernel
theorem dMo_divide_71 : decode cMo_divide 71 = .ok (.imul, 1) := by decide +kernel
theorem dMo_divide_72 : decode cMo_divide 72 = .ok (.iload 6, 2) := by decide +kernel
theorem dMo_divide_74 : decode cMo_divide 74 = .ok (.iadd, 1) := by decide +kernel
theorem dMo_divide_75 : decode cMo_divide 75 = .ok (.iload_n 3, 1) := by decide +kernel
theorem dMo_divide_76 : decode cMo_divide 76 = .ok (.iadd, 1) := by decide +kernel
theorem dMo_divide_77 : decode cMo_divide 77 = .ok (.laload, 1) := by decide +kernel
theorem dMo_divide_78 : decode cMo_divide 78 = .ok (.bipush 24, 2) := by decide +kernel
theorem dMo_divide_80 : decode cMo_divide 80 = .ok (.lshl, 1) := by decide +kernel
theorem dMo_divide_81 : decode cMo_divide 81 = .ok (.goto 4, 3) := by decide +kernel
theorem dMo_divide_84 : decode cMo_divide 84 = .ok (.lconst 0, 1) := by decide +kernel
theorem dMo_divide_85 : decode cMo_divide 85 = .ok (.lstore 7, 2) := by decide +kernel
theorem dMo_divide_87 : decode cMo_divide 87 = .ok (.lload 7, 2) := by decide +kernel
theorem dMo_divide_89 : decode cMo_divide 89 = .ok (.aload_n 0, 1) := by decide +kernel
theorem dMo_divide_90 : decode cMo_divide 90 = .ok (.getfield 7, 3) := by decide +kernel
theorem dMo_divide_93 : decode cMo_divide 93 = .ok (.bipush 64, 2) := by decide +kernel
theorem dMo_divide_95 : decode cMo_divide 95 = .ok (.iload_n 1, 1) := by decide +kernel
theorem dMo_divide_96 : decode cMo_divide 96 = .ok (.imul, 1) := by decide +kernel
theorem dMo_divide_97 : decode cMo_divide 97 = .ok (.iload 6, 2) := by decide +kernel
theorem dMo_divide_99 : decode cMo_divide 99 = .ok (.iadd, 1) := by decide +kernel
theorem dMo_divide_100 : decode cMo_divide 100 = .ok (.iload_n 3, 1) := by decide +kernel
theorem dMo_divide_101 : decode cMo_divide 101 = .ok (.iadd, 1) := by decide +kernel
theorem dMo_divide_102 : decode cMo_divide 102 = .ok (.iconst 1, 1) := by decide +kernel
theorem dMo_divide_103 : decode cMo_divide 103 = .ok (.isub, 1) := by decide +kernel
theorem dMo_divide_104 : decode cMo_divide 104 = .ok (.laload, 1) := by decide +kernel
theorem dMo_divide_105 : decode cMo_divide 105 = .ok (.ladd, 1) := by decide +kernel
theorem dMo_divide_106 : decode cMo_divide 106 = .ok (.lload 4, 2) := by decide +kernel
theorem dMo_divide_108 : decode cMo_divide 108 = .ok (.ldiv, 1) := by decide +kernel
theorem dMo_divide_109 : decode cMo_divide 109 = .ok (.lstore 9, 2) := by decide +kernel
theorem dMo_divide_111 : decode cMo_divide 111 = .ok (.lload 9, 2) := by decide +kernel
theorem dMo_divide_113 : decode cMo_divide 113 = .ok (.lconst 0, 1) := by decide +kernel
theorem dMo_divide_114 : decode cMo_divide 114 = .ok (.lcmp, 1) := by decide +kernel
theorem dMo_divide_115 : decode cMo_divide 115 = .ok (.ifCond .ne 7, 3) := by decide +kernel
theorem dMo_divide_118 : decode cMo_divide 118 = .ok (.lconst 1, 1) := by decide +kernel
theorem dMo_divide_119 : decode cMo_divide 119 = .ok (.goto 5, 3) := by decide +kernel
theorem dMo_divide_122 : decode cMo_divide 122 = .ok (.lload 9, 2) := by decide +kernel
theorem dMo_divide_124 : decode cMo_divide 124 = .ok (.lstore 9, 2) := by decide +kernel
theorem dMo_divide_126 : decode cMo_divide 126 = .ok (.aload_n 0, 1) := by decide +kernel
theorem dMo_divide_127 : decode cMo_divide 127 = .ok (.iload_n 1, 1) := by decide +kernel
theorem dMo_divide_128 : decode cMo_divide 128 = .ok (.iload_n 2, 1) := by decide +kernel
theorem dMo_divide_129 : decode cMo_divide 129 = .ok (.lload 9, 2) := by decide +kernel
theorem dMo_divide_131 : decode cMo_divide 131 = .ok (.iload 6, 2) := by decide +kernel
theorem dMo_divide_133 : decode cMo_divide 133 = .ok (.invokevirtual 135, 3) := by decide +kernel
theorem dMo_divide_136 : decode cMo_divide 136 = .ok (.aload_n 0, 1) := by decide +kernel
theorem dMo_divide_137 : decode cMo_divide 137 = .ok (.getfield 7, 3) := by decide +kernel
theorem dMo_divide_140 : decode cMo_divide 140 = .ok (.sipush 1280, 3) := by decide +kernel
theorem dMo_divide_143 : decode cMo_divide 143 = .ok (.iload 6, 2) := by decide +kernel
theorem dMo_divide_145 : decode cMo_divide 145 = .ok (.iadd, 1) := by decide +kernel
theorem dMo_divide_146 : decode cMo_divide 146 = .ok (.dup2, 1) := by decide +kernel
theorem dMo_divide_147 : decode cMo_divide 147 = .ok (.laload, 1) := by decide +kernel
theorem dMo_divide_148 : decode cMo_divide 148 = .ok (.lload 9, 2) := by decide +kernel
theorem dMo_divide_150 : decode cMo_divide 150 = .ok (.ladd, 1) := by decide +kernel
theorem dMo_divide_151 : decode cMo_divide 151 = .ok (.lastore, 1) := by decide +kernel
theorem dMo_divide_152 : decode cMo_divide 152 = .ok (.goto (-109), 3) := by decide +kernel
theorem dMo_divide_155 : decode cMo_divide 155 = .ok (.iinc 6 (-1), 3) := by decide +kernel
theorem dMo_divide_158 : decode cMo_divide 158 = .ok (.goto (-120), 3) := by decide +kernel
theorem dMo_divide_161 : decode cMo_divide 161 = .ok (.return_, 1) := by decide +kernel
theorem dMo_reaches_0 : decode cMo_reaches 0 = .ok (.bipush 63, 2) := by decide +kernel
theorem dMo_reaches_2 : decode cMo_reaches 2 = .ok (.istore 5, 2) := by decide +kernel
theorem dMo_reaches_4 : decode cMo_reaches 4 = .ok (.iload 5, 2) := by decide +kernel
theorem dMo_reaches_6 : decode cMo_reaches 6 = .ok (.iload_n 3, 1) := by decide +kernel
theorem dMo_reaches_7 : decode cMo_reaches 7 = .ok (.iload 4, 2) := by decide +kernel
theorem dMo_reaches_9 : decode cMo_reaches 9 = .ok (.iadd, 1) := by decide +kernel
theorem dMo_reaches_10 : decode cMo_reaches 10 = .ok (.if_icmp .lt 28, 3) := by decide +kernel
theorem dMo_reaches_13 : decode cMo_reaches 13 = .ok (.aload_n 0, 1) := by decide +kernel
theorem dMo_reaches_14 : decode cMo_reaches 14 = .ok (.getfield 7, 3) := by decide +kernel
theorem dMo_reaches_17 : decode cMo_reaches 17 = .ok (.bipush 64, 2) := by decide +kernel
theorem dMo_reaches_19 : decode cMo_reaches 19 = .ok (.iload_n 1, 1) := by decide +kernel
theorem dMo_reaches_20 : decode cMo_reaches 20 = .ok (.imul, 1) := by decide +kernel
theorem dMo_reaches_21 : decode cMo_reaches 21 = .ok (.iload 5, 2) := by decide +kernel
theorem dMo_reaches_23 : decode cMo_reaches 23 = .ok (.iadd, 1) := by decide +kernel
theorem dMo_reaches_24 : decode cMo_reaches 24 = .ok (.laload, 1) := by decide +kernel
theorem dMo_reaches_25 : decode cMo_reaches 25 = .ok (.lconst 0, 1) := by decide +kernel
theorem dMo_reaches_26 : decode cMo_reaches 26 = .ok (.lcmp, 1) := by decide +kernel
theorem dMo_reaches_27 : decode cMo_reaches 27 = .ok (.ifCond .le 5, 3) := by decide +kernel
theorem dMo_reaches_30 : decode cMo_reaches 30 = .ok (.iconst 1, 1) := by decide +kernel
theorem dMo_reaches_31 : decode cMo_reaches 31 = .ok (.ireturn, 1) := by decide +kernel
theorem dMo_reaches_32 : decode cMo_reaches 32 = .ok (.iinc 5 (-1), 3) := by decide +kernel
theorem dMo_reaches_35 : decode cMo_reaches 35 = .ok (.goto (-31), 3) := by decide +kernel
theorem dMo_reaches_38 : decode cMo_reaches 38 = .ok (.iload_n 3, 1) := by decide +kernel
theorem dMo_reaches_39 : decode cMo_reaches 39 = .ok (.iconst 1, 1) := by decide +kernel
theorem dMo_reaches_40 : decode cMo_reaches 40 = .ok (.isub, 1) := by decide +kernel
theorem dMo_reaches_41 : decode cMo_reaches 41 = .ok (.istore 5, 2) := by decide +kernel
theorem dMo_reaches_43 : decode cMo_reaches 43 = .ok (.iload 5, 2) := by decide +kernel
theorem dMo_reaches_45 : decode cMo_reaches 45 = .ok (.ifCond .lt 59, 3) := by decide +kernel
theorem dMo_reaches_48 : decode cMo_reaches 48 = .ok (.aload_n 0, 1) := by decide +kernel
theorem dMo_reaches_49 : decode cMo_reaches 49 = .ok (.getfield 7, 3) := by decide +kernel
theorem dMo_reaches_52 : decode cMo_reaches 52 = .ok (.bipush 64, 2) := by decide +kernel
theorem dMo_reaches_54 : decode cMo_reaches 54 = .ok (.iload_n 1, 1) := by decide +kernel
theorem dMo_reaches_55 : decode cMo_reaches 55 = .ok (.imul, 1) := by decide +kernel
theorem dMo_reaches_56 : decode cMo_reaches 56 = .ok (.iload 5, 2) := by decide +kernel
theorem dMo_reaches_58 : decode cMo_reaches 58 = .ok (.iadd, 1) := by decide +kernel
theorem dMo_reaches_59 : decode cMo_reaches 59 = .ok (.iload 4, 2) := by decide +kernel
theorem dMo_reaches_61 : decode cMo_reaches 61 = .ok (.iadd, 1) := by decide +kernel
theorem dMo_reaches_62 : decode cMo_reaches 62 = .ok (.laload, 1) := by decide +kernel
theorem dMo_reaches_63 : decode cMo_reaches 63 = .ok (.aload_n 0, 1) := by decide +kernel
theorem dMo_reaches_64 : decode cMo_reaches 64 = .ok (.getfield 7, 3) := by decide +kernel
theorem dMo_reaches_67 : decode cMo_reaches 67 = .ok (.bipush 64, 2) := by decide +kernel
theorem dMo_reaches_69 : decode cMo_reaches 69 = .ok (.iload_n 2, 1) := by decide +kernel
theorem dMo_reaches_70 : decode cMo_reaches 70 = .ok (.imul, 1) := by decide +kernel
theorem dMo_reaches_71 : decode cMo_reaches 71 = .ok (.iload 5, 2) := by decide +kernel
theorem dMo_reaches_73 : decode cMo_reaches 73 = .ok (.iadd, 1) := by decide +kernel
theorem dMo_reaches_74 : decode cMo_reaches 74 = .ok (.laload, 1) := by decide +kernel
theorem dMo_reaches_75 : decode cMo_reaches 75 = .ok (.lsub, 1) := by decide +kernel
theorem dMo_reaches_76 : decode cMo_reaches 76 = .ok (.lstore 6, 2) := by decide +kernel
theorem dMo_reaches_78 : decode cMo_reaches 78 = .ok (.lload 6, 2) := by decide +kernel
theorem dMo_reaches_80 : decode cMo_reaches 80 = .ok (.lconst 0, 1) := by decide +kernel
theorem dMo_reaches_81 : decode cMo_reaches 81 = .ok (.lcmp, 1) := by decide +kernel
theorem dMo_reaches_82 : decode cMo_reaches 82 = .ok (.ifCond .eq 16, 3) := by decide +kernel
theorem dMo_reaches_85 : decode cMo_reaches 85 = .ok (.lload 6, 2) := by decide +kernel
theorem dMo_reaches_87 : decode cMo_reaches 87 = .ok (.lconst 0, 1) := by decide +kernel
theorem dMo_reaches_88 : decode cMo_reaches 88 = .ok (.lcmp, 1) := by decide +kernel
theorem dMo_reaches_89 : decode cMo_reaches 89 = .ok (.ifCond .le 7, 3) := by decide +kernel
theorem dMo_reaches_92 : decode cMo_reaches 92 = .ok (.iconst 1, 1) := by decide +kernel
theorem dMo_reaches_93 : decode cMo_reaches 93 = .ok (.goto 4, 3) := by decide +kernel
theorem dMo_reaches_96 : decode cMo_reaches 96 = .ok (.iconst 0, 1) := by decide +kernel
theorem dMo_reaches_97 : decode cMo_reaches 97 = .ok (.ireturn, 1) := by decide +kernel
theorem dMo_reaches_98 : decode cMo_reaches 98 = .ok (.iinc 5 (-1), 3) := by decide +kernel
theorem dMo_reaches_101 : decode cMo_reaches 101 = .ok (.goto (-58), 3) := by decide +kernel
theorem dMo_reaches_104 : decode cMo_reaches 104 = .ok (.iconst 1, 1) := by decide +kernel
theorem dMo_reaches_105 : decode cMo_reaches 105 = .ok (.ireturn, 1) := by decide +kernel
theorem dMo_power_0 : decode cMo_power 0 = .ok (.aload_n 0, 1) := by decide +kernel
theorem dMo_power_1 : decode cMo_power 1 = .ok (.getfield 13, 3) := by decide +kernel
theorem dMo_power_4 : decode cMo_power 4 = .ok (.iload_n 2, 1) := by decide +kernel
theorem dMo_power_5 : decode cMo_power 5 = .ok (.iaload, 1) := by decide +kernel
theorem dMo_power_6 : decode cMo_power 6 = .ok (.ifCond .ge 5, 3) := by decide +kernel
theorem dMo_power_9 : decode cMo_power 9 = .ok (.iconst 3, 1) := by decide +kernel
theorem dMo_power_10 : decode cMo_power 10 = .ok (.ireturn, 1) := by decide +kernel
theorem dMo_power_11 : decode cMo_power 11 = .ok (.aload_n 0, 1) := by decide +kernel
theorem dMo_power_12 : decode cMo_power 12 = .ok (.iload_n 2, 1) := by decide +kernel
theorem dMo_power_13 : decode cMo_power 13 = .ok (.iconst 0, 1) := by decide +kernel
theorem dMo_power_14 : decode cMo_power 14 = .ok (.invokevirtual 139, 3) := by decide +kernel
theorem dMo_power_17 : decode cMo_power 17 = .ok (.iconst 1, 1) := by decide +kernel
theorem dMo_power_18 : decode cMo_power 18 = .ok (.if_icmp .ne 7, 3) := by decide +kernel
theorem dMo_power_21 : decode cMo_power 21 = .ok (.iconst 1, 1) := by decide +kernel
theorem dMo_power_22 : decode cMo_power 22 = .ok (.goto 4, 3) := by decide +kernel
theorem dMo_power_25 : decode cMo_power 25 = .ok (.iconst 0, 1) := by decide +kernel
theorem dMo_power_26 : decode cMo_power 26 = .ok (.istore_n 3, 1) := by decide +kernel
theorem dMo_power_27 : decode cMo_power 27 = .ok (.aload_n 0, 1) := by decide +kernel
theorem dMo_power_28 : decode cMo_power 28 = .ok (.getfield 13, 3) := by decide +kernel
theorem dMo_power_31 : decode cMo_power 31 = .ok (.iload_n 1, 1) := by decide +kernel
theorem dMo_power_32 : decode cMo_power 32 = .ok (.iaload, 1) := by decide +kernel
theorem dMo_power_33 : decode cMo_power 33 = .ok (.ifCond .eq 13, 3) := by decide +kernel
theorem dMo_power_36 : decode cMo_power 36 = .ok (.aload_n 0, 1) := by decide +kernel
theorem dMo_power_37 : decode cMo_power 37 = .ok (.iload_n 1, 1) := by decide +kernel
theorem dMo_power_38 : decode cMo_power 38 = .ok (.bipush 23, 2) := by decide +kernel
theorem dMo_power_40 : decode cMo_power 40 = .ok (.invokevirtual 149, 3) := by decide +kernel
theorem dMo_power_43 : decode cMo_power 43 = .ok (.ifCond .ne 75, 3) := by decide +kernel
theorem dMo_power_46 : decode cMo_power 46 = .ok (.aload_n 0, 1) := by decide +kernel
theorem dMo_power_47 : decode cMo_power 47 = .ok (.getfield 13, 3) := by decide +kernel
theorem dMo_power_50 : decode cMo_power 50 = .ok (.iload_n 2, 1) := by decide +kernel
theorem dMo_power_51 : decode cMo_power 51 = .ok (.iaload, 1) := by decide +kernel
theorem dMo_power_52 : decode cMo_power 52 = .ok (.ifCond .ne 7, 3) := by decide +kernel
theorem dMo_power_55 : decode cMo_power 55 = .ok (.iconst 1, 1) := by decide +kernel
theorem dMo_power_56 : decode cMo_power 56 = .ok (.goto 26, 3) := by decide +kernel
theorem dMo_power_59 : decode cMo_power 59 = .ok (.aload_n 0, 1) := by decide +kernel
theorem dMo_power_60 : decode cMo_power 60 = .ok (.getfield 13, 3) := by decide +kernel
theorem dMo_power_63 : decode cMo_power 63 = .ok (.iload_n 1, 1) := by decide +kernel
theorem dMo_power_64 : decode cMo_power 64 = .ok (.iaload, 1) := by decide +kernel
theorem dMo_power_65 : decode cMo_power 65 = .ok (.ifCond .ge 11, 3) := by decide +kernel
theorem dMo_power_68 : decode cMo_power 68 = .ok (.iload_n 3, 1) := by decide +kernel
theorem dMo_power_69 : decode cMo_power 69 = .ok (.ifCond .ne 7, 3) := by decide +kernel
theorem dMo_power_72 : decode cMo_power 72 = .ok (.iconst 1, 1) := by decide +kernel
theorem dMo_power_73 : decode cMo_power 73 = .ok (.goto 9, 3) := by decide +kernel
theorem dMo_power_76 : decode cMo_power 76 = .ok (.aload_n 0, 1) := by decide +kernel
theorem dMo_power_77 : decode cMo_power 77 = .ok (.getfield 13, 3) := by decide +kernel
theorem dMo_power_80 : decode cMo_power 80 = .ok (.iload_n 1, 1) := by decide +kernel
theorem dMo_power_81 : decode cMo_power 81 = .ok (.iaload, 1) := by decide +kernel
theorem dMo_power_82 : decode cMo_power 82 = .ok (.istore 4, 2) := by decide +kernel
theorem dMo_power_84 : decode cMo_power 84 = .ok (.aload_n 0, 1) := by decide +kernel
theorem dMo_power_85 : decode cMo_power 85 = .ok (.iload_n 1, 1) := by decide +kernel
theorem dMo_power_86 : decode cMo_power 86 = .ok (.invokevirtual 125, 3) := by decide +kernel
theorem dMo_power_89 : decode cMo_power 89 = .ok (.aload_n 0, 1) := by decide +kernel
theorem dMo_power_90 : decode cMo_power 90 = .ok (.getfield 7, 3) := by decide +kernel
theorem dMo_power_93 : decode cMo_power 93 = .ok (.bipush 64, 2) := by decide +kernel
theorem dMo_power_95 : decode cMo_power 95 = .ok (.iload_n 1, 1) := by decide +kernel
theorem dMo_power_96 : decode cMo_power 96 = .ok (.imul, 1) := by decide +kernel
theorem dMo_power_97 : decode cMo_power 97 = .ok (.iload 4, 2) := by decide +kernel
theorem dMo_power_99 : decode cMo_power 99 = .ok (.ifCond .ne 7, 3) := by decide +kernel
theorem dMo_power_102 : decode cMo_power 102 = .ok (.lconst 0, 1) := by decide +kernel
theorem dMo_power_103 : decode cMo_power 103 = .ok (.goto 4, 3) := by decide +kernel
theorem dMo_power_106 : decode cMo_power 106 = .ok (.lconst 1, 1) := by decide +kernel
theorem dMo_power_107 : decode cMo_power 107 = .ok (.lastore, 1) := by decide +kernel
theorem dMo_power_108 : decode cMo_power 108 = .ok (.aload_n 0, 1) := by decide +kernel
theorem dMo_power_109 : decode cMo_power 109 = .ok (.getfield 13, 3) := by decide +kernel
theorem dMo_power_112 : decode cMo_power 112 = .ok (.iload_n 1, 1) := by decide +kernel
theorem dMo_power_113 : decode cMo_power 113 = .ok (.iload 4, 2) := by decide +kernel
theorem dMo_power_115 : decode cMo_power 115 = .ok (.iastore, 1) := by decide +kernel
theorem dMo_power_116 : decode cMo_power 116 = .ok (.iconst 0, 1) := by decide +kernel
theorem dMo_power_117 : decode cMo_power 117 = .ok (.ireturn, 1) := by decide +kernel
theorem dMo_power_118 : decode cMo_power 118 = .ok (.aload_n 0, 1) := by decide +kernel
theorem dMo_power_119 : decode cMo_power 119 = .ok (.iload_n 2, 1) := by decide +kernel
theorem dMo_power_120 : decode cMo_power 120 = .ok (.invokevirtual 162, 3) := by decide +kernel
theorem dMo_power_123 : decode cMo_power 123 = .ok (.bipush 10, 2) := by decide +kernel
theorem dMo_power_125 : decode cMo_power 125 = .ok (.if_icmp .gt 19, 3) := by decide +kernel
theorem dMo_power_128 : decode cMo_power 128 = .ok (.aload_n 0, 1) := by decide +kernel
theorem dMo_power_129 : decode cMo_power 129 = .ok (.getfield 7, 3) := by decide +kernel
theorem dMo_power_132 : decode cMo_power 132 = .ok (.bipush 64, 2) := by decide +kernel
theorem dMo_power_134 : decode cMo_power 134 = .ok (.iload_n 2, 1) := by decide +kernel
theorem dMo_power_135 : decode cMo_power 135 = .ok (.imul, 1) := by decide +kernel
theorem dMo_power_136 : decode cMo_power 136 = .ok (.laload, 1) := by decide +kernel
theorem dMo_power_137 : decode cMo_power 137 = .ok (.ldc2_w 165, 3) := by decide +kernel
theorem dMo_power_140 : decode cMo_power 140 = .ok (.lcmp, 1) := by decide +kernel
theorem dMo_power_141 : decode cMo_power 141 = .ok (.ifCond .le 6, 3) := by decide +kernel
theorem dMo_power_144 : decode cMo_power 144 = .ok (.bipush 6, 2) := by decide +kernel
theorem dMo_power_146 : decode cMo_power 146 = .ok (.ireturn, 1) := by decide +kernel
theorem dMo_power_147 : decode cMo_power 147 = .ok (.iload_n 3, 1) := by decide +kernel
theorem dMo_power_148 : decode cMo_power 148 = .ok (.ifCond .eq 12, 3) := by decide +kernel
theorem dMo_power_151 : decode cMo_power 151 = .ok (.aload_n 0, 1) := by decide +kernel
theorem dMo_power_152 : decode cMo_power 152 = .ok (.getfield 13, 3) := by decide +kernel
theorem dMo_power_155 : decode cMo_power 155 = .ok (.iload_n 1, 1) := by decide +kernel
theorem dMo_power_156 : decode cMo_power 156 = .ok (.iaload, 1) := by decide +kernel
theorem dMo_power_157 : decode cMo_power 157 = .ok (.goto 4, 3) := by decide +kernel
theorem dMo_power_160 : decode cMo_power 160 = .ok (.iconst 1, 1) := by decide +kernel
theorem dMo_power_161 : decode cMo_power 161 = .ok (.istore 4, 2) := by decide +kernel
theorem dMo_power_163 : decode cMo_power 163 = .ok (.aload_n 0, 1) := by decide +kernel
theorem dMo_power_164 : decode cMo_power 164 = .ok (.getfield 7, 3) := by decide +kernel
theorem dMo_power_167 : decode cMo_power 167 = .ok (.bipush 64, 2) := by decide +kernel
theorem dMo_power_169 : decode cMo_power 169 = .ok (.iload_n 2, 1) := by decide +kernel
theorem dMo_power_170 : decode cMo_power 170 = .ok (.imul, 1) := by decide +kernel
theorem dMo_power_171 : decode cMo_power 171 = .ok (.laload, 1) := by decide +kernel
theorem dMo_power_172 : decode cMo_power 172 = .ok (.l2i, 1) := by decide +kernel
theorem dMo_power_173 : decode cMo_power 173 = .ok (.istore 5, 2) := by decide +kernel
theorem dMo_power_175 : decode cMo_power 175 = .ok (.aload_n 0, 1) := by decide +kernel
theorem dMo_power_176 : decode cMo_power 176 = .ok (.iload_n 1, 1) := by decide +kernel
theorem dMo_power_177 : decode cMo_power 177 = .ok (.bipush 19, 2) := by decide +kernel
theorem dMo_power_179 : decode cMo_power 179 = .ok (.invokevirtual 143, 3) := by decide +kernel
theorem dMo_power_182 : decode cMo_power 182 = .ok (.aload_n 0, 1) := by decide +kernel
theorem dMo_power_183 : decode cMo_power 183 = .ok (.bipush 23, 2) := by decide +kernel
theorem dMo_power_185 : decode cMo_power 185 = .ok (.iload_n 1, 1) := by decide +kernel
theorem dMo_power_186 : decode cMo_power 186 = .ok (.invokevirtual 143, 3) := by decide +kernel
theorem dMo_power_189 : decode cMo_power 189 = .ok (.iconst 0, 1) := by decide +kernel
theorem dMo_power_190 : decode cMo_power 190 = .ok (.istore 6, 2) := by decide +kernel
theorem dMo_power_192 : decode cMo_power 192 = .ok (.iload 6, 2) := by decide +kernel
theorem dMo_power_194 : decode cMo_power 194 = .ok (.iload 5, 2) := by decide +kernel
theorem dMo_power_196 : decode cMo_power 196 = .ok (.if_icmp .ge 33, 3) := by decide +kernel
theorem dMo_power_199 : decode cMo_power 199 = .ok (.aload_n 0, 1) := by decide +kernel
theorem dMo_power_200 : decode cMo_power 200 = .ok (.iload_n 1, 1) := by decide +kernel
theorem dMo_power_201 : decode cMo_power 201 = .ok (.invokevirtual 152, 3) := by decide +kernel
theorem dMo_power_204 : decode cMo_power 204 = .ok (.ifCond .ne 25, 3) := by decide +kernel
theorem dMo_power_207 : decode cMo_power 207 = .ok (.aload_n 0, 1) := by decide +kernel
theorem dMo_power_208 : decode cMo_power 208 = .ok (.iload_n 1, 1) := by decide +kernel
theorem dMo_power_209 : decode cMo_power 209 = .ok (.bipush 19, 2) := by decide +kernel
theorem dMo_power_211 : decode cMo_power 211 = .ok (.bipush 21, 2) := by decide +kernel
theorem dMo_power_213 : decode cMo_power 213 = .ok (.invokevirtual 155, 3) := by decide +kernel
theorem dMo_power_216 : decode cMo_power 216 = .ok (.aload_n 0, 1) := by decide +kernel
theorem dMo_power_217 : decode cMo_power 217 = .ok (.bipush 21, 2) := by decide +kernel
theorem dMo_power_219 : decode cMo_power 219 = .ok (.iload_n 1, 1) := by decide +kernel
theorem dMo_power_220 : decode cMo_power 220 = .ok (.invokevirtual 143, 3) := by decide +kernel
theorem dMo_power_223 : decode cMo_power 223 = .ok (.iinc 6 1, 3) := by decide +kernel
theorem dMo_power_226 : decode cMo_power 226 = .ok (.goto (-34), 3) := by decide +kernel
theorem dMo_power_229 : decode cMo_power 229 = .ok (.aload_n 0, 1) := by decide +kernel
theorem dMo_power_230 : decode cMo_power 230 = .ok (.getfield 13, 3) := by decide +kernel
theorem dMo_power_233 : decode cMo_power 233 = .ok (.iload_n 1, 1) := by decide +kernel
theorem dMo_power_234 : decode cMo_power 234 = .ok (.iload 4, 2) := by decide +kernel
theorem dMo_power_236 : decode cMo_power 236 = .ok (.iastore, 1) := by decide +kernel
theorem dMo_power_237 : decode cMo_power 237 = .ok (.aload_n 0, 1) := by decide +kernel
theorem dMo_power_238 : decode cMo_power 238 = .ok (.iload_n 1, 1) := by decide +kernel
theorem dMo_power_239 : decode cMo_power 239 = .ok (.invokevirtual 152, 3) := by decide +kernel
theorem dMo_power_242 : decode cMo_power 242 = .ok (.ifCond .eq 8, 3) := by decide +kernel
theorem dMo_power_245 : decode cMo_power 245 = .ok (.bipush 6, 2) := by decide +kernel
theorem dMo_power_247 : decode cMo_power 247 = .ok (.goto 4, 3) := by decide +kernel
theorem dMo_power_250 : decode cMo_power 250 = .ok (.iconst 0, 1) := by decide +kernel
theorem dMo_power_251 : decode cMo_power 251 = .ok (.ireturn, 1) := by decide +kernel
theorem dMo_bit_0 : decode cMo_bit 0 = .ok (.aload_n 0, 1) := by decide +kernel
theorem dMo_bit_1 : decode cMo_bit 1 = .ok (.getfield 7, 3) := by decide +kernel
theorem dMo_bit_4 : decode cMo_bit 4 = .ok (.bipush 64, 2) := by decide +kernel
theorem dMo_bit_6 : decode cMo_bit 6 = .ok (.iload_n 1, 1) := by decide +kernel
theorem dMo_bit_7 : decode cMo_bit 7 = .ok (.imul, 1) := by decide +kernel
theorem dMo_bit_8 : decode cMo_bit 8 = .ok (.iload_n 2, 1) := by decide +kernel
theorem dMo_bit_9 : decode cMo_bit 9 = .ok (.bipush 24, 2) := by decide +kernel
theorem dMo_bit_11 : decode cMo_bit 11 = .ok (.idiv, 1) := by decide +kernel
theorem dMo_bit_12 : decode cMo_bit 12 = .ok (.iadd, 1) := by decide +kernel
theorem dMo_bit_13 : decode cMo_bit 13 = .ok (.laload, 1) := by decide +kernel
theorem dMo_bit_14 : decode cMo_bit 14 = .ok (.iload_n 2, 1) := by decide +kernel
theorem dMo_bit_15 : decode cMo_bit 15 = .ok (.bipush 24, 2) := by decide +kernel
theorem dMo_bit_17 : decode cMo_bit 17 = .ok (.irem, 1) := by decide +kernel
theorem dMo_bit_18 : decode cMo_bit 18 = .ok (.lshr, 1) := by decide +kernel
theorem dMo_bit_19 : decode cMo_bit 19 = .ok (.lconst 1, 1) := by decide +kernel
theorem dMo_bit_20 : decode cMo_bit 20 = .ok (.land, 1) := by decide +kernel
theorem dMo_bit_21 : decode cMo_bit 21 = .ok (.l2i, 1) := by decide +kernel
theorem dMo_bit_22 : decode cMo_bit 22 = .ok (.ireturn, 1) := by decide +kernel
theorem dMo_bits_0 : decode cMo_bits 0 = .ok (.bipush 24, 2) := by decide +kernel
theorem dMo_bits_2 : decode cMo_bits 2 = .ok (.aload_n 0, 1) := by decide +kernel
theorem dMo_bits_3 : decode cMo_bits 3 = .ok (.iload_n 1, 1) := by decide +kernel
theorem dMo_bits_4 : decode cMo_bits 4 = .ok (.invokevirtual 128, 3) := by decide +kernel
theorem dMo_bits_7 : decode cMo_bits 7 = .ok (.imul, 1) := by decide +kernel
theorem dMo_bits_8 : decode cMo_bits 8 = .ok (.istore_n 2, 1) := by decide +kernel
theorem dMo_bits_9 : decode cMo_bits 9 = .ok (.iload_n 2, 1) := by decide +kernel
theorem dMo_bits_10 : decode cMo_bits 10 = .ok (.ifCond .le 20, 3) := by decide +kernel
theorem dMo_bits_13 : decode cMo_bits 13 = .ok (.aload_n 0, 1) := by decide +kernel
theorem dMo_bits_14 : decode cMo_bits 14 = .ok (.iload_n 1, 1) := by decide +kernel
theorem dMo_bits_15 : decode cMo_bits 15 = .ok (.iload_n 2, 1) := by decide +kernel
theorem dMo_bits_16 : decode cMo_bits 16 = .ok (.iconst 1, 1) := by decide +kernel
theorem dMo_bits_17 : decode cMo_bits 17 = .ok (.isub, 1) := by decide +kernel
theorem dMo_bits_18 : decode cMo_bits 18 = .ok (.invokevirtual 139, 3) := by decide +kernel
theorem dMo_bits_21 : decode cMo_bits 21 = .ok (.ifCond .ne 9, 3) := by decide +kernel
theorem dMo_bits_24 : decode cMo_bits 24 = .ok (.iinc 2 (-1), 3) := by decide +kernel
theorem dMo_bits_27 : decode cMo_bits 27 = .ok (.goto (-18), 3) := by decide +kernel
theorem dMo_bits_30 : decode cMo_bits 30 = .ok (.iload_n 2, 1) := by decide +kernel
theorem dMo_bits_31 : decode cMo_bits 31 = .ok (.ireturn, 1) := by decide +kernel
theorem dMo_divisor_0 : decode cMo_divisor 0 = .ok (.aload_n 0, 1) := by decide +kernel
theorem dMo_divisor_1 : decode cMo_divisor 1 = .ok (.iload_n 2, 1) := by decide +kernel
theorem dMo_divisor_2 : decode cMo_divisor 2 = .ok (.bipush 19, 2) := by decide +kernel
theorem dMo_divisor_4 : decode cMo_divisor 4 = .ok (.invokevirtual 143, 3) := by decide +kernel
theorem dMo_divisor_7 : decode cMo_divisor 7 = .ok (.aload_n 0, 1) := by decide +kernel
theorem dMo_divisor_8 : decode cMo_divisor 8 = .ok (.bipush 19, 2) := by decide +kernel
theorem dMo_divisor_10 : decode cMo_divisor 10 = .ok (.invokevirtual 128, 3) := by decide +kernel
theorem dMo_divisor_13 : decode cMo_divisor 13 = .ok (.ifCond .le 35, 3) := by decide +kernel
theorem dMo_divisor_16 : decode cMo_divisor 16 = .ok (.aload_n 0, 1) := by decide +kernel
theorem dMo_divisor_17 : decode cMo_divisor 17 = .ok (.iload_n 1, 1) := by decide +kernel
theorem dMo_divisor_18 : decode cMo_divisor 18 = .ok (.bipush 19, 2) := by decide +kernel
theorem dMo_divisor_20 : decode cMo_divisor 20 = .ok (.invokevirtual 159, 3) := by decide +kernel
theorem dMo_divisor_23 : decode cMo_divisor 23 = .ok (.aload_n 0, 1) := by decide +kernel
theorem dMo_divisor_24 : decode cMo_divisor 24 = .ok (.iload_n 1, 1) := by decide +kernel
theorem dMo_divisor_25 : decode cMo_divisor 25 = .ok (.bipush 18, 2) := by decide +kernel
theorem dMo_divisor_27 : decode cMo_divisor 27 = .ok (.invokevirtual 143, 3) := by decide +kernel
theorem dMo_divisor_30 : decode cMo_divisor 30 = .ok (.aload_n 0, 1) := by decide +kernel
theorem dMo_divisor_31 : decode cMo_divisor 31 = .ok (.bipush 19, 2) := by decide +kernel
theorem dMo_divisor_33 : decode cMo_divisor 33 = .ok (.iload_n 1, 1) := by decide +kernel
theorem dMo_divisor_34 : decode cMo_divisor 34 = .ok (.invokevirtual 143, 3) := by decide +kernel
theorem dMo_divisor_37 : decode cMo_divisor 37 = .ok (.aload_n 0, 1) := by decide +kernel
theorem dMo_divisor_38 : decode cMo_divisor 38 = .ok (.bipush 18, 2) := by decide +kernel
theorem dMo_divisor_40 : decode cMo_divisor 40 = .ok (.bipush 19, 2) := by decide +kernel
theorem dMo_divisor_42 : decode cMo_divisor 42 = .ok (.invokevirtual 143, 3) := by decide +kernel
theorem dMo_divisor_45 : decode cMo_divisor 45 = .ok (.goto (-38), 3) := by decide +kernel
theorem dMo_divisor_48 : decode cMo_divisor 48 = .ok (.aload_n 0, 1) := by decide +kernel
theorem dMo_divisor_49 : decode cMo_divisor 49 = .ok (.getfield 13, 3) := by decide +kernel
theorem dMo_divisor_52 : decode cMo_divisor 52 = .ok (.iload_n 1, 1) := by decide +kernel
theorem dMo_divisor_53 : decode cMo_divisor 53 = .ok (.aload_n 0, 1) := by decide +kernel
theorem dMo_divisor_54 : decode cMo_divisor 54 = .ok (.iload_n 1, 1) := by decide +kernel
theorem dMo_divisor_55 : decode cMo_divisor 55 = .ok (.invokevirtual 128, 3) := by decide +kernel
theorem dMo_divisor_58 : decode cMo_divisor 58 = .ok (.ifCond .ne 7, 3) := by decide +kernel
theorem dMo_divisor_61 : decode cMo_divisor 61 = .ok (.iconst 0, 1) := by decide +kernel
theorem dMo_divisor_62 : decode cMo_divisor 62 = .ok (.goto 4, 3) := by decide +kernel
theorem dMo_divisor_65 : decode cMo_divisor 65 = .ok (.iconst 1, 1) := by decide +kernel
theorem dMo_divisor_66 : decode cMo_divisor 66 = .ok (.iastore, 1) := by decide +kernel
theorem dMo_divisor_67 : decode cMo_divisor 67 = .ok (.iconst 0, 1) := by decide +kernel
theorem dMo_divisor_68 : decode cMo_divisor 68 = .ok (.ireturn, 1) := by decide +kernel
theorem dMo_root_0 : decode cMo_root 0 = .ok (.aload_n 0, 1) := by decide +kernel
theorem dMo_root_1 : decode cMo_root 1 = .ok (.getfield 13, 3) := by decide +kernel
theorem dMo_root_4 : decode cMo_root 4 = .ok (.iload_n 1, 1) := by decide +kernel
theorem dMo_root_5 : decode cMo_root 5 = .ok (.iaload, 1) := by decide +kernel
theorem dMo_root_6 : decode cMo_root 6 = .ok (.ifCond .ge 5, 3) := by decide +kernel
theorem dMo_root_9 : decode cMo_root 9 = .ok (.iconst 4, 1) := by decide +kernel
theorem dMo_root_10 : decode cMo_root 10 = .ok (.ireturn, 1) := by decide +kernel
theorem dMo_root_11 : decode cMo_root 11 = .ok (.aload_n 0, 1) := by decide +kernel
theorem dMo_root_12 : decode cMo_root 12 = .ok (.bipush 22, 2) := by decide +kernel
theorem dMo_root_14 : decode cMo_root 14 = .ok (.invokevirtual 125, 3) := by decide +kernel
theorem dMo_root_17 : decode cMo_root 17 = .ok (.sipush 383, 3) := by decide +kernel
theorem dMo_root_20 : decode cMo_root 20 = .ok (.istore_n 2, 1) := by decide +kernel
theorem dMo_root_21 : decode cMo_root 21 = .ok (.iload_n 2, 1) := by decide +kernel
theorem dMo_root_22 : decode cMo_root 22 = .ok (.ifCond .lt 70, 3) := by decide +kernel
theorem dMo_root_25 : decode cMo_root 25 = .ok (.lconst 1, 1) := by decide +kernel
theorem dMo_root_26 : decode cMo_root 26 = .ok (.iload_n 2, 1) := by decide +kernel
theorem dMo_root_27 : decode cMo_root 27 = .ok (.bipush 24, 2) := by decide +kernel
theorem dMo_root_29 : decode cMo_root 29 = .ok (.irem, 1) := by decide +kernel
theorem dMo_root_30 : decode cMo_root 30 = .ok (.lshl, 1) := by decide +kernel
theorem dMo_root_31 : decode cMo_root 31 = .ok (.lstore_n 3, 1) := by decide +kernel
theorem dMo_root_32 : decode cMo_root 32 = .ok (.aload_n 0, 1) := by decide +kernel
theorem dMo_root_33 : decode cMo_root 33 = .ok (.getfield 7, 3) := by decide +kernel
theorem dMo_root_36 : decode cMo_root 36 = .ok (.sipush 1408, 3) := by decide +kernel
theorem dMo_root_39 : decode cMo_root 39 = .ok (.iload_n 2, 1) := by decide +kernel
theorem dMo_root_40 : decode cMo_root 40 = .ok (.bipush 24, 2) := by decide +kernel
theorem dMo_root_42 : decode cMo_root 42 = .ok (.idiv, 1) := by decide +kernel
theorem dMo_root_43 : decode cMo_root 43 = .ok (.iadd, 1) := by decide +kernel
theorem dMo_root_44 : decode cMo_root 44 = .ok (.dup2, 1) := by decide +kernel
theorem dMo_root_45 : decode cMo_root 45 = .ok (.laload, 1) := by decide +kernel
theorem dMo_root_46 : decode cMo_root 46 = .ok (.lload_n 3, 1) := by decide +kernel
theorem dMo_root_47 : decode cMo_root 47 = .ok (.ladd, 1) := by decide +kernel
theorem dMo_root_48 : decode cMo_root 48 = .ok (.lastore, 1) := by decide +kernel
theorem dMo_root_49 : decode cMo_root 49 = .ok (.aload_n 0, 1) := by decide +kernel
theorem dMo_root_50 : decode cMo_root 50 = .ok (.bipush 22, 2) := by decide +kernel
theorem dMo_root_52 : decode cMo_root 52 = .ok (.bipush 22, 2) := by decide +kernel
theorem dMo_root_54 : decode cMo_root 54 = .ok (.bipush 21, 2) := by decide +kernel
theorem dMo_root_56 : decode cMo_root 56 = .ok (.invokevirtual 155, 3) := by decide +kernel
theorem dMo_root_59 : decode cMo_root 59 = .ok (.aload_n 0, 1) := by decide +kernel
theorem dMo_root_60 : decode cMo_root 60 = .ok (.bipush 21, 2) := by decide +kernel
theorem dMo_root_62 : decode cMo_root 62 = .ok (.iload_n 1, 1) := by decide +kernel
theorem dMo_root_63 : decode cMo_root 63 = .ok (.invokevirtual 149, 3) := by decide +kernel
theorem dMo_root_66 : decode cMo_root 66 = .ok (.ifCond .le 20, 3) := by decide +kernel
theorem dMo_root_69 : decode cMo_root 69 = .ok (.aload_n 0, 1) := by decide +kernel
theorem dMo_root_70 : decode cMo_root 70 = .ok (.getfield 7, 3) := by decide +kernel
theorem dMo_root_73 : decode cMo_root 73 = .ok (.sipush 1408, 3) := by decide +kernel
theorem dMo_root_76 : decode cMo_root 76 = .ok (.iload_n 2, 1) := by decide +kernel
theorem dMo_root_77 : decode cMo_root 77 = .ok (.bipush 24, 2) := by decide +kernel
theorem dMo_root_79 : decode cMo_root 79 = .ok (.idiv, 1) := by decide +kernel
theorem dMo_root_80 : decode cMo_root 80 = .ok (.iadd, 1) := by decide +kernel
theorem dMo_root_81 : decode cMo_root 81 = .ok (.dup2, 1) := by decide +kernel
theorem dMo_root_82 : decode cMo_root 82 = .ok (.laload, 1) := by decide +kernel
theorem dMo_root_83 : decode cMo_root 83 = .ok (.lload_n 3, 1) := by decide +kernel
theorem dMo_root_84 : decode cMo_root 84 = .ok (.lsub, 1) := by decide +kernel
theorem dMo_root_85 : decode cMo_root 85 = .ok (.lastore, 1) := by decide +kernel
theorem dMo_root_86 : decode cMo_root 86 = .ok (.iinc 2 (-1), 3) := by decide +kernel
theorem dMo_root_89 : decode cMo_root 89 = .ok (.goto (-68), 3) := by decide +kernel
theorem dMo_root_92 : decode cMo_root 92 = .ok (.aload_n 0, 1) := by decide +kernel
theorem dMo_root_93 : decode cMo_root 93 = .ok (.getfield 13, 3) := by decide +kernel
theorem dMo_root_96 : decode cMo_root 96 = .ok (.bipush 22, 2) := by decide +kernel
theorem dMo_root_98 : decode cMo_root 98 = .ok (.aload_n 0, 1) := by decide +kernel
theorem dMo_root_99 : decode cMo_root 99 = .ok (.getfield 13, 3) := by decide +kernel
theorem dMo_root_102 : decode cMo_root 102 = .ok (.iload_n 1, 1) := by decide +kernel
theorem dMo_root_103 : decode cMo_root 103 = .ok (.iaload, 1) := by decide +kernel
theorem dMo_root_104 : decode cMo_root 104 = .ok (.iastore, 1) := by decide +kernel
theorem dMo_root_105 : decode cMo_root 105 = .ok (.aload_n 0, 1) := by decide +kernel
theorem dMo_root_106 : decode cMo_root 106 = .ok (.bipush 22, 2) := by decide +kernel
theorem dMo_root_108 : decode cMo_root 108 = .ok (.iload_n 1, 1) := by decide +kernel
theorem dMo_root_109 : decode cMo_root 109 = .ok (.invokevirtual 143, 3) := by decide +kernel
theorem dMo_root_112 : decode cMo_root 112 = .ok (.iconst 0, 1) := by decide +kernel
theorem dMo_root_113 : decode cMo_root 113 = .ok (.ireturn, 1) := by decide +kernel
theorem dMo_modular_0 : decode cMo_modular 0 = .ok (.aload_n 0, 1) := by decide +kernel
theorem dMo_modular_1 : decode cMo_modular 1 = .ok (.getfield 13, 3) := by decide +kernel
theorem dMo_modular_4 : decode cMo_modular 4 = .ok (.iload_n 3, 1) := by decide +kernel
theorem dMo_modular_5 : decode cMo_modular 5 = .ok (.iaload, 1) := by decide +kernel
theorem dMo_modular_6 : decode cMo_modular 6 = .ok (.ifCond .ne 5, 3) := by decide +kernel
theorem dMo_modular_9 : decode cMo_modular 9 = .ok (.iconst 2, 1) := by decide +kernel
theorem dMo_modular_10 : decode cMo_modular 10 = .ok (.ireturn, 1) := by decide +kernel
theorem dMo_modular_11 : decode cMo_modular 11 = .ok (.aload_n 0, 1) := by decide +kernel
theorem dMo_modular_12 : decode cMo_modular 12 = .ok (.getfield 13, 3) := by decide +kernel
theorem dMo_modular_15 : decode cMo_modular 15 = .ok (.iload_n 2, 1) := by decide +kernel
theorem dMo_modular_16 : decode cMo_modular 16 = .ok (.iaload, 1) := by decide +kernel
theorem dMo_modular_17 : decode cMo_modular 17 = .ok (.ifCond .ge 5, 3) := by decide +kernel
theorem dMo_modular_20 : decode cMo_modular 20 = .ok (.iconst 3, 1) := by decide +kernel
theorem dMo_modular_21 : decode cMo_modular 21 = .ok (.ireturn, 1) := by decide +kernel
theorem dMo_modular_22 : decode cMo_modular 22 = .ok (.aload_n 0, 1) := by decide +kernel
theorem dMo_modular_23 : decode cMo_modular 23 = .ok (.getfield 13, 3) := by decide +kernel
theorem dMo_modular_26 : decode cMo_modular 26 = .ok (.iload_n 3, 1) := by decide +kernel
theorem dMo_modular_27 : decode cMo_modular 27 = .ok (.iaload, 1) := by decide +kernel
theorem dMo_modular_28 : decode cMo_modular 28 = .ok (.ifCond .ge 5, 3) := by decide +kernel
theorem dMo_modular_31 : decode cMo_modular 31 = .ok (.iconst 5, 1) := by decide +kernel
theorem dMo_modular_32 : decode cMo_modular 32 = .ok (.ireturn, 1) := by decide +kernel
theorem dMo_modular_33 : decode cMo_modular 33 = .ok (.aload_n 0, 1) := by decide +kernel
theorem dMo_modular_34 : decode cMo_modular 34 = .ok (.iload_n 1, 1) := by decide +kernel
theorem dMo_modular_35 : decode cMo_modular 35 = .ok (.iload_n 3, 1) := by decide +kernel
theorem dMo_modular_36 : decode cMo_modular 36 = .ok (.iconst 1, 1) := by decide +kernel
theorem dMo_modular_37 : decode cMo_modular 37 = .ok (.invokevirtual 167, 3) := by decide +kernel
theorem dMo_modular_40 : decode cMo_modular 40 = .ok (.istore 4, 2) := by decide +kernel
theorem dMo_modular_42 : decode cMo_modular 42 = .ok (.aload_n 0, 1) := by decide +kernel
theorem dMo_modular_43 : decode cMo_modular 43 = .ok (.bipush 23, 2) := by decide +kernel
theorem dMo_modular_45 : decode cMo_modular 45 = .ok (.bipush 22, 2) := by decide +kernel
theorem dMo_modular_47 : decode cMo_modular 47 = .ok (.invokevirtual 143, 3) := by decide +kernel
theorem dMo_modular_50 : decode cMo_modular 50 = .ok (.aload_n 0, 1) := by decide +kernel
theorem dMo_modular_51 : decode cMo_modular 51 = .ok (.bipush 22, 2) := by decide +kernel
theorem dMo_modular_53 : decode cMo_modular 53 = .ok (.iload_n 3, 1) := by decide +kernel
theorem dMo_modular_54 : decode cMo_modular 54 = .ok (.invokevirtual 159, 3) := by decide +kernel
theorem dMo_modular_57 : decode cMo_modular 57 = .ok (.aload_n 0, 1) := by decide +kernel
theorem dMo_modular_58 : decode cMo_modular 58 = .ok (.iload_n 2, 1) := by decide +kernel
theorem dMo_modular_59 : decode cMo_modular 59 = .ok (.invokevirtual 162, 3) := by decide +kernel
theorem dMo_modular_62 : decode cMo_modular 62 = .ok (.iconst 1, 1) := by decide +kernel
theorem dMo_modular_63 : decode cMo_modular 63 = .ok (.isub, 1) := by decide +kernel
theorem dMo_modular_64 : decode cMo_modular 64 = .ok (.istore 5, 2) := by decide +kernel
theorem dMo_modular_66 : decode cMo_modular 66 = .ok (.iload 5, 2) := by decide +kernel
theorem dMo_modular_68 : decode cMo_modular 68 = .ok (.ifCond .lt 69, 3) := by decide +kernel
theorem dMo_modular_71 : decode cMo_modular 71 = .ok (.aload_n 0, 1) := by decide +kernel
theorem dMo_modular_72 : decode cMo_modular 72 = .ok (.bipush 22, 2) := by decide +kernel
theorem dMo_modular_74 : decode cMo_modular 74 = .ok (.bipush 22, 2) := by decide +kernel
theorem dMo_modular_76 : decode cMo_modular 76 = .ok (.bipush 21, 2) := by decide +kernel
theorem dMo_modular_78 : decode cMo_modular 78 = .ok (.invokevirtual 155, 3) := by decide +kernel
theorem dMo_modular_81 : decode cMo_modular 81 = .ok (.aload_n 0, 1) := by decide +kernel
theorem dMo_modular_82 : decode cMo_modular 82 = .ok (.bipush 21, 2) := by decide +kernel
theorem dMo_modular_84 : decode cMo_modular 84 = .ok (.iload_n 3, 1) := by decide +kernel
theorem dMo_modular_85 : decode cMo_modular 85 = .ok (.invokevirtual 159, 3) := by decide +kernel
theorem dMo_modular_88 : decode cMo_modular 88 = .ok (.aload_n 0, 1) := by decide +kernel
theorem dMo_modular_89 : decode cMo_modular 89 = .ok (.bipush 21, 2) := by decide +kernel
theorem dMo_modular_91 : decode cMo_modular 91 = .ok (.bipush 22, 2) := by decide +kernel
theorem dMo_modular_93 : decode cMo_modular 93 = .ok (.invokevirtual 143, 3) := by decide +kernel
theorem dMo_modular_96 : decode cMo_modular 96 = .ok (.aload_n 0, 1) := by decide +kernel
theorem dMo_modular_97 : decode cMo_modular 97 = .ok (.iload_n 2, 1) := by decide +kernel
theorem dMo_modular_98 : decode cMo_modular 98 = .ok (.iload 5, 2) := by decide +kernel
theorem dMo_modular_100 : decode cMo_modular 100 = .ok (.invokevirtual 139, 3) := by decide +kernel
theorem dMo_modular_103 : decode cMo_modular 103 = .ok (.iconst 1, 1) := by decide +kernel
theorem dMo_modular_104 : decode cMo_modular 104 = .ok (.if_icmp .ne 27, 3) := by decide +kernel
theorem dMo_modular_107 : decode cMo_modular 107 = .ok (.aload_n 0, 1) := by decide +kernel
theorem dMo_modular_108 : decode cMo_modular 108 = .ok (.bipush 22, 2) := by decide +kernel
theorem dMo_modular_110 : decode cMo_modular 110 = .ok (.iload_n 1, 1) := by decide +kernel
theorem dMo_modular_111 : decode cMo_modular 111 = .ok (.bipush 21, 2) := by decide +kernel
theorem dMo_modular_113 : decode cMo_modular 113 = .ok (.invokevirtual 155, 3) := by decide +kernel
theorem dMo_modular_116 : decode cMo_modular 116 = .ok (.aload_n 0, 1) := by decide +kernel
theorem dMo_modular_117 : decode cMo_modular 117 = .ok (.bipush 21, 2) := by decide +kernel
theorem dMo_modular_119 : decode cMo_modular 119 = .ok (.iload_n 3, 1) := by decide +kernel
theorem dMo_modular_120 : decode cMo_modular 120 = .ok (.invokevirtual 159, 3) := by decide +kernel
theorem dMo_modular_123 : decode cMo_modular 123 = .ok (.aload_n 0, 1) := by decide +kernel
theorem dMo_modular_124 : decode cMo_modular 124 = .ok (.bipush 21, 2) := by decide +kernel
theorem dMo_modular_126 : decode cMo_modular 126 = .ok (.bipush 22, 2) := by decide +kernel
theorem dMo_modular_128 : decode cMo_modular 128 = .ok (.invokevirtual 143, 3) := by decide +kernel
theorem dMo_modular_131 : decode cMo_modular 131 = .ok (.iinc 5 (-1), 3) := by decide +kernel
theorem dMo_modular_134 : decode cMo_modular 134 = .ok (.goto (-68), 3) := by decide +kernel
theorem dMo_modular_137 : decode cMo_modular 137 = .ok (.aload_n 0, 1) := by decide +kernel
theorem dMo_modular_138 : decode cMo_modular 138 = .ok (.bipush 22, 2) := by decide +kernel
theorem dMo_modular_140 : decode cMo_modular 140 = .ok (.iload_n 1, 1) := by decide +kernel
theorem dMo_modular_141 : decode cMo_modular 141 = .ok (.invokevirtual 143, 3) := by decide +kernel
theorem dMo_modular_144 : decode cMo_modular 144 = .ok (.aload_n 0, 1) := by decide +kernel
theorem dMo_modular_145 : decode cMo_modular 145 = .ok (.getfield 13, 3) := by decide +kernel
theorem dMo_modular_148 : decode cMo_modular 148 = .ok (.iload_n 1, 1) := by decide +kernel
theorem dMo_modular_149 : decode cMo_modular 149 = .ok (.aload_n 0, 1) := by decide +kernel
theorem dMo_modular_150 : decode cMo_modular 150 = .ok (.iload_n 1, 1) := by decide +kernel
theorem dMo_modular_151 : decode cMo_modular 151 = .ok (.invokevirtual 128, 3) := by decide +kernel
theorem dMo_modular_154 : decode cMo_modular 154 = .ok (.ifCond .ne 7, 3) := by decide +kernel
theorem dMo_modular_157 : decode cMo_modular 157 = .ok (.iconst 0, 1) := by decide +kernel
theorem dMo_modular_158 : decode cMo_modular 158 = .ok (.goto 4, 3) := by decide +kernel
theorem dMo_modular_161 : decode cMo_modular 161 = .ok (.iconst 1, 1) := by decide +kernel
theorem dMo_modular_162 : decode cMo_modular 162 = .ok (.iastore, 1) := by decide +kernel
theorem dMo_modular_163 : decode cMo_modular 163 = .ok (.iload 4, 2) := by decide +kernel
theorem dMo_modular_165 : decode cMo_modular 165 = .ok (.ireturn, 1) := by decide +kernel
theorem dMo_sign_0 : decode cMo_sign 0 = .ok (.aload_n 0, 1) := by decide +kernel
theorem dMo_sign_1 : decode cMo_sign 1 = .ok (.aload_n 0, 1) := by decide +kernel
theorem dMo_sign_2 : decode cMo_sign 2 = .ok (.invokevirtual 196, 3) := by decide +kernel
theorem dMo_sign_5 : decode cMo_sign 5 = .ok (.ifCond .ne 7, 3) := by decide +kernel
theorem dMo_sign_8 : decode cMo_sign 8 = .ok (.iconst 1, 1) := by decide +kernel
theorem dMo_sign_9 : decode cMo_sign 9 = .ok (.goto 4, 3) := by decide +kernel
theorem dMo_sign_12 : decode cMo_sign 12 = .ok (.iconst 0, 1) := by decide +kernel
theorem dMo_sign_13 : decode cMo_sign 13 = .ok (.iconst 1, 1) := by decide +kernel
theorem dMo_sign_14 : decode cMo_sign 14 = .ok (.invokevirtual 39, 3) := by decide +kernel
theorem dMo_sign_17 : decode cMo_sign 17 = .ok (.ifCond .eq 7, 3) := by decide +kernel
theorem dMo_sign_20 : decode cMo_sign 20 = .ok (.iconst 0, 1) := by decide +kernel
theorem dMo_sign_21 : decode cMo_sign 21 = .ok (.goto 9, 3) := by decide +kernel
theorem dMo_sign_24 : decode cMo_sign 24 = .ok (.aload_n 0, 1) := by decide +kernel
theorem dMo_sign_25 : decode cMo_sign 25 = .ok (.getfield 13, 3) := by decide +kernel
theorem dMo_sign_28 : decode cMo_sign 28 = .ok (.iconst 0, 1) := by decide +kernel
theorem dMo_sign_29 : decode cMo_sign 29 = .ok (.iaload, 1) := by decide +kernel
theorem dMo_sign_30 : decode cMo_sign 30 = .ok (.ireturn, 1) := by decide +kernel
theorem dMo_limb_0 : decode cMo_limb 0 = .ok (.aload_n 0, 1) := by decide +kernel
theorem dMo_limb_1 : decode cMo_limb 1 = .ok (.aload_n 0, 1) := by decide +kernel
theorem dMo_limb_2 : decode cMo_limb 2 = .ok (.invokevirtual 196, 3) := by decide +kernel
theorem dMo_limb_5 : decode cMo_limb 5 = .ok (.ifCond .ne 7, 3) := by decide +kernel
theorem dMo_limb_8 : decode cMo_limb 8 = .ok (.iconst 1, 1) := by decide +kernel
theorem dMo_limb_9 : decode cMo_limb 9 = .ok (.goto 4, 3) := by decide +kernel
theorem dMo_limb_12 : decode cMo_limb 12 = .ok (.iconst 0, 1) := by decide +kernel
theorem dMo_limb_13 : decode cMo_limb 13 = .ok (.iconst 1, 1) := by decide +kernel
theorem dMo_limb_14 : decode cMo_limb 14 = .ok (.invokevirtual 39, 3) := by decide +kernel
theorem dMo_limb_17 : decode cMo_limb 17 = .ok (.ifCond .ne 26, 3) := by decide +kernel
theorem dMo_limb_20 : decode cMo_limb 20 = .ok (.aload_n 0, 1) := by decide +kernel
theorem dMo_limb_21 : decode cMo_limb 21 = .ok (.iload_n 1, 1) := by decide +kernel
theorem dMo_limb_22 : decode cMo_limb 22 = .ok (.ifCond .lt 9, 3) := by decide +kernel
theorem dMo_limb_25 : decode cMo_limb 25 = .ok (.iload_n 1, 1) := by decide +kernel
theorem dMo_limb_26 : decode cMo_limb 26 = .ok (.bipush 23, 2) := by decide +kernel
theorem dMo_limb_28 : decode cMo_limb 28 = .ok (.if_icmp .le 7, 3) := by decide +kernel
theorem dMo_limb_31 : decode cMo_limb 31 = .ok (.iconst 1, 1) := by decide +kernel
theorem dMo_limb_32 : decode cMo_limb 32 = .ok (.goto 4, 3) := by decide +kernel
theorem dMo_limb_35 : decode cMo_limb 35 = .ok (.iconst 0, 1) := by decide +kernel
theorem dMo_limb_36 : decode cMo_limb 36 = .ok (.iconst 2, 1) := by decide +kernel
theorem dMo_limb_37 : decode cMo_limb 37 = .ok (.invokevirtual 39, 3) := by decide +kernel
theorem dMo_limb_40 : decode cMo_limb 40 = .ok (.ifCond .eq 5, 3) := by decide +kernel
theorem dMo_limb_43 : decode cMo_limb 43 = .ok (.lconst 0, 1) := by decide +kernel
theorem dMo_limb_44 : decode cMo_limb 44 = .ok (.lreturn, 1) := by decide +kernel
theorem dMo_limb_45 : decode cMo_limb 45 = .ok (.lconst 0, 1) := by decide +kernel
theorem dMo_limb_46 : decode cMo_limb 46 = .ok (.lstore_n 2, 1) := by decide +kernel
theorem dMo_limb_47 : decode cMo_limb 47 = .ok (.bipush 31, 2) := by decide +kernel
theorem dMo_limb_49 : decode cMo_limb 49 = .ok (.istore 4, 2) := by decide +kernel
theorem dMo_limb_51 : decode cMo_limb 51 = .ok (.iload 4, 2) := by decide +kernel
theorem dMo_limb_53 : decode cMo_limb 53 = .ok (.ifCond .lt 29, 3) := by decide +kernel
theorem dMo_limb_56 : decode cMo_limb 56 = .ok (.ldc2_w 202, 3) := by decide +kernel
theorem dMo_limb_59 : decode cMo_limb 59 = .ok (.lload_n 2, 1) := by decide +kernel
theorem dMo_limb_60 : decode cMo_limb 60 = .ok (.lmul, 1) := by decide +kernel
theorem dMo_limb_61 : decode cMo_limb 61 = .ok (.aload_n 0, 1) := by decide +kernel
theorem dMo_limb_62 : decode cMo_limb 62 = .ok (.iconst 0, 1) := by decide +kernel
theorem dMo_limb_63 : decode cMo_limb 63 = .ok (.bipush 32, 2) := by decide +kernel
theorem dMo_limb_65 : decode cMo_limb 65 = .ok (.iload_n 1, 1) := by decide +kernel
theorem dMo_limb_66 : decode cMo_limb 66 = .ok (.imul, 1) := by decide +kernel
theorem dMo_limb_67 : decode cMo_limb 67 = .ok (.iload 4, 2) := by decide +kernel
theorem dMo_limb_69 : decode cMo_limb 69 = .ok (.iadd, 1) := by decide +kernel
theorem dMo_limb_70 : decode cMo_limb 70 = .ok (.invokevirtual 139, 3) := by decide +kernel
theorem dMo_limb_73 : decode cMo_limb 73 = .ok (.i2l, 1) := by decide +kernel
theorem dMo_limb_74 : decode cMo_limb 74 = .ok (.ladd, 1) := by decide +kernel
theorem dMo_limb_75 : decode cMo_limb 75 = .ok (.lstore_n 2, 1) := by decide +kernel
theorem dMo_limb_76 : decode cMo_limb 76 = .ok (.iinc 4 (-1), 3) := by decide +kernel
theorem dMo_limb_79 : decode cMo_limb 79 = .ok (.goto (-28), 3) := by decide +kernel
theorem dMo_limb_82 : decode cMo_limb 82 = .ok (.lload_n 2, 1) := by decide +kernel
theorem dMo_limb_83 : decode cMo_limb 83 = .ok (.lreturn, 1) := by decide +kernel
theorem dMo_digit_0 : decode cMo_digit 0 = .ok (.aload_n 0, 1) := by decide +kernel
theorem dMo_digit_1 : decode cMo_digit 1 = .ok (.aload_n 0, 1) := by decide +kernel
theorem dMo_digit_2 : decode cMo_digit 2 = .ok (.invokevirtual 196, 3) := by decide +kernel
theorem dMo_digit_5 : decode cMo_digit 5 = .ok (.ifCond .ne 7, 3) := by decide +kernel
theorem dMo_digit_8 : decode cMo_digit 8 = .ok (.iconst 1, 1) := by decide +kernel
theorem dMo_digit_9 : decode cMo_digit 9 = .ok (.goto 4, 3) := by decide +kernel
theorem dMo_digit_12 : decode cMo_digit 12 = .ok (.iconst 0, 1) := by decide +kernel
theorem dMo_digit_13 : decode cMo_digit 13 = .ok (.iconst 1, 1) := by decide +kernel
theorem dMo_digit_14 : decode cMo_digit 14 = .ok (.invokevirtual 39, 3) := by decide +kernel
theorem dMo_digit_17 : decode cMo_digit 17 = .ok (.ifCond .ne 20, 3) := by decide +kernel
theorem dMo_digit_20 : decode cMo_digit 20 = .ok (.aload_n 0, 1) := by decide +kernel
theorem dMo_digit_21 : decode cMo_digit 21 = .ok (.iload_n 1, 1) := by decide +kernel
theorem dMo_digit_22 : decode cMo_digit 22 = .ok (.ifCond .ge 7, 3) := by decide +kernel
theorem dMo_digit_25 : decode cMo_digit 25 = .ok (.iconst 1, 1) := by decide +kernel
theorem dMo_digit_26 : decode cMo_digit 26 = .ok (.goto 4, 3) := by decide +kernel
theorem dMo_digit_29 : decode cMo_digit 29 = .ok (.iconst 0, 1) := by decide +kernel
theorem dMo_digit_30 : decode cMo_digit 30 = .ok (.iconst 2, 1) := by decide +kernel
theorem dMo_digit_31 : decode cMo_digit 31 = .ok (.invokevirtual 39, 3) := by decide +kernel
theorem dMo_digit_34 : decode cMo_digit 34 = .ok (.ifCond .eq 5, 3) := by decide +kernel
theorem dMo_digit_37 : decode cMo_digit 37 = .ok (.iconst 0, 1) := by decide +kernel
theorem dMo_digit_38 : decode cMo_digit 38 = .ok (.ireturn, 1) := by decide +kernel
theorem dMo_digit_39 : decode cMo_digit 39 = .ok (.aload_n 0, 1) := by decide +kernel
theorem dMo_digit_40 : decode cMo_digit 40 = .ok (.iconst 0, 1) := by decide +kernel
theorem dMo_digit_41 : decode cMo_digit 41 = .ok (.bipush 18, 2) := by decide +kernel
theorem dMo_digit_43 : decode cMo_digit 43 = .ok (.invokevirtual 143, 3) := by decide +kernel
theorem dMo_digit_46 : decode cMo_digit 46 = .ok (.aload_n 0, 1) := by decide +kernel
theorem dMo_digit_47 : decode cMo_digit 47 = .ok (.invokevirtual 206, 3) := by decide +kernel
theorem dMo_digit_50 : decode cMo_digit 50 = .ok (.istore_n 2, 1) := by decide +kernel
theorem dMo_digit_51 : decode cMo_digit 51 = .ok (.iconst 0, 1) := by decide +kernel
theorem dMo_digit_52 : decode cMo_digit 52 = .ok (.istore_n 3, 1) := by decide +kernel
theorem dMo_digit_53 : decode cMo_digit 53 = .ok (.iload_n 3, 1) := by decide +kernel
theorem dMo_digit_54 : decode cMo_digit 54 = .ok (.iload_n 1, 1) := by decide +kernel
theorem dMo_digit_55 : decode cMo_digit 55 = .ok (.if_icmp .ge 21, 3) := by decide +kernel
theorem dMo_digit_58 : decode cMo_digit 58 = .ok (.iload_n 3, 1) := by decide +kernel
theorem dMo_digit_59 : decode cMo_digit 59 = .ok (.sipush 240, 3) := by decide +kernel
theorem dMo_digit_62 : decode cMo_digit 62 = .ok (.if_icmp .ge 14, 3) := by decide +kernel
theorem dMo_digit_65 : decode cMo_digit 65 = .ok (.aload_n 0, 1) := by decide +kernel
theorem dMo_digit_66 : decode cMo_digit 66 = .ok (.invokevirtual 206, 3) := by decide +kernel
theorem dMo_digit_69 : decode cMo_digit 69 = .ok (.istore_n 2, 1) := by decide +kernel
theorem dMo_digit_70 : decode cMo_digit 70 = .ok (.iinc 3 1, 3) := by decide +kernel
theorem dMo_digit_73 : decode cMo_digit 73 = .ok (.goto (-20), 3) := by decide +kernel
theorem dMo_digit_76 : decode cMo_digit 76 = .ok (.iload_n 2, 1) := by decide +kernel
theorem dMo_digit_77 : decode cMo_digit 77 = .ok (.ireturn, 1) := by decide +kernel
theorem dMo_tenth_0 : decode cMo_tenth 0 = .ok (.lconst 0, 1) := by decide +kernel
theorem dMo_tenth_1 : decode cMo_tenth 1 = .ok (.lstore_n 1, 1) := by decide +kernel
theorem dMo_tenth_2 : decode cMo_tenth 2 = .ok (.bipush 31, 2) := by decide +kernel
theorem dMo_tenth_4 : decode cMo_tenth 4 = .ok (.istore_n 3, 1) := by decide +kernel
theorem dMo_tenth_5 : decode cMo_tenth 5 = .ok (.iload_n 3, 1) := by decide +kernel
theorem dMo_tenth_6 : decode cMo_tenth 6 = .ok (.ifCond .lt 49, 3) := by decide +kernel
theorem dMo_tenth_9 : decode cMo_tenth 9 = .ok (.lload_n 1, 1) := by decide +kernel
theorem dMo_tenth_10 : decode cMo_tenth 10 = .ok (.bipush 24, 2) := by decide +kernel
theorem dMo_tenth_12 : decode cMo_tenth 12 = .ok (.lshl, 1) := by decide +kernel
theorem dMo_tenth_13 : decode cMo_tenth 13 = .ok (.aload_n 0, 1) := by decide +kernel
theorem dMo_tenth_14 : decode cMo_tenth 14 = .ok (.getfield 7, 3) := by decide +kernel
theorem dMo_tenth_17 : decode cMo_tenth 17 = .ok (.sipush 1152, 3) := by decide +kernel
theorem dMo_tenth_20 : decode cMo_tenth 20 = .ok (.iload_n 3, 1) := by decide +kernel
theorem dMo_tenth_21 : decode cMo_tenth 21 = .ok (.iadd, 1) := by decide +kernel
theorem dMo_tenth_22 : decode cMo_tenth 22 = .ok (.laload, 1) := by decide +kernel
theorem dMo_tenth_23 : decode cMo_tenth 23 = .ok (.ladd, 1) := by decide +kernel
theorem dMo_tenth_24 : decode cMo_tenth 24 = .ok (.lstore 4, 2) := by decide +kernel
theorem dMo_tenth_26 : decode cMo_tenth 26 = .ok (.aload_n 0, 1) := by decide +kernel
theorem dMo_tenth_27 : decode cMo_tenth 27 = .ok (.getfield 7, 3) := by decide +kernel
theorem dMo_tenth_30 : decode cMo_tenth 30 = .ok (.sipush 1152, 3) := by decide +kernel
theorem dMo_tenth_33 : decode cMo_tenth 33 = .ok (.iload_n 3, 1) := by decide +kernel
theorem dMo_tenth_34 : decode cMo_tenth 34 = .ok (.iadd, 1) := by decide +kernel
theorem dMo_tenth_35 : decode cMo_tenth 35 = .ok (.lload 4, 2) := by decide +kernel
theorem dMo_tenth_37 : decode cMo_tenth 37 = .ok (.ldc2_w 204, 3) := by decide +kernel
theorem dMo_tenth_40 : decode cMo_tenth 40 = .ok (.ldiv, 1) := by decide +kernel
theorem dMo_tenth_41 : decode cMo_tenth 41 = .ok (.lastore, 1) := by decide +kernel
theorem dMo_tenth_42 : decode cMo_tenth 42 = .ok (.lload 4, 2) := by decide +kernel
theorem dMo_tenth_44 : decode cMo_tenth 44 = .ok (.ldc2_w 204, 3) := by decide +kernel
theorem dMo_tenth_47 : decode cMo_tenth 47 = .ok (.lrem, 1) := by decide +kernel
theorem dMo_tenth_48 : decode cMo_tenth 48 = .ok (.lstore_n 1, 1) := by decide +kernel
theorem dMo_tenth_49 : decode cMo_tenth 49 = .ok (.iinc 3 (-1), 3) := by decide +kernel
theorem dMo_tenth_52 : decode cMo_tenth 52 = .ok (.goto (-47), 3) := by decide +kernel
theorem dMo_tenth_55 : decode cMo_tenth 55 = .ok (.lload_n 1, 1) := by decide +kernel
theorem dMo_tenth_56 : decode cMo_tenth 56 = .ok (.l2i, 1) := by decide +kernel
theorem dMo_tenth_57 : decode cMo_tenth 57 = .ok (.ireturn, 1) := by decide +kernel
theorem dMo_compare_0 : decode cMo_compare 0 = .ok (.iload_n 1, 1) := by decide +kernel
theorem dMo_compare_1 : decode cMo_compare 1 = .ok (.ifCond .lt 13, 3) := by decide +kernel
theorem dMo_compare_4 : decode cMo_compare 4 = .ok (.iload_n 1, 1) := by decide +kernel
theorem dMo_compare_5 : decode cMo_compare 5 = .ok (.bipush 8, 2) := by decide +kernel
theorem dMo_compare_7 : decode cMo_compare 7 = .ok (.if_icmp .ge 7, 3) := by decide +kernel
theorem dMo_compare_10 : decode cMo_compare 10 = .ok (.iconst 1, 1) := by decide +kernel
theorem dMo_compare_11 : decode cMo_compare 11 = .ok (.goto 4, 3) := by decide +kernel
theorem dMo_compare_14 : decode cMo_compare 14 = .ok (.iconst 0, 1) := by decide +kernel
theorem dMo_compare_15 : decode cMo_compare 15 = .ok (.istore_n 2, 1) := by decide +kernel
theorem dMo_compare_16 : decode cMo_compare 16 = .ok (.aload_n 0, 1) := by decide +kernel
theorem dMo_compare_17 : decode cMo_compare 17 = .ok (.iload_n 2, 1) := by decide +kernel
theorem dMo_compare_18 : decode cMo_compare 18 = .ok (.ifCond .ne 7, 3) := by decide +kernel
theorem dMo_compare_21 : decode cMo_compare 21 = .ok (.iconst 1, 1) := by decide +kernel
theorem dMo_compare_22 : decode cMo_compare 22 = .ok (.goto 4, 3) := by decide +kernel
theorem dMo_compare_25 : decode cMo_compare 25 = .ok (.iconst 0, 1) := by decide +kernel
theorem dMo_compare_26 : decode cMo_compare 26 = .ok (.iconst 1, 1) := by decide +kernel
theorem dMo_compare_27 : decode cMo_compare 27 = .ok (.invokevirtual 39, 3) := by decide +kernel
theorem dMo_compare_30 : decode cMo_compare 30 = .ok (.ifCond .ne 23, 3) := by decide +kernel
theorem dMo_compare_33 : decode cMo_compare 33 = .ok (.aload_n 0, 1) := by decide +kernel
theorem dMo_compare_34 : decode cMo_compare 34 = .ok (.aload_n 0, 1) := by decide +kernel
theorem dMo_compare_35 : decode cMo_compare 35 = .ok (.invokevirtual 196, 3) := by decide +kernel
theorem dMo_compare_38 : decode cMo_compare 38 = .ok (.ifCond .ne 7, 3) := by decide +kernel
theorem dMo_compare_41 : decode cMo_compare 41 = .ok (.iconst 1, 1) := by decide +kernel
theorem dMo_compare_42 : decode cMo_compare 42 = .ok (.goto 4, 3) := by decide +kernel
theorem dMo_compare_45 : decode cMo_compare 45 = .ok (.iconst 0, 1) := by decide +kernel
theorem dMo_compare_46 : decode cMo_compare 46 = .ok (.iconst 2, 1) := by decide +kernel
theorem dMo_compare_47 : decode cMo_compare 47 = .ok (.invokevirtual 39, 3) := by decide +kernel
theorem dMo_compare_50 : decode cMo_compare 50 = .ok (.ifCond .eq 5, 3) := by decide +kernel
theorem dMo_compare_53 : decode cMo_compare 53 = .ok (.iconst 0, 1) := by decide +kernel
theorem dMo_compare_54 : decode cMo_compare 54 = .ok (.ireturn, 1) := by decide +kernel
theorem dMo_compare_55 : decode cMo_compare 55 = .ok (.bipush 10, 2) := by decide +kernel
theorem dMo_compare_57 : decode cMo_compare 57 = .ok (.iload_n 1, 1) := by decide +kernel
theorem dMo_compare_58 : decode cMo_compare 58 = .ok (.iadd, 1) := by decide +kernel
theorem dMo_compare_59 : decode cMo_compare 59 = .ok (.istore_n 3, 1) := by decide +kernel
theorem dMo_compare_60 : decode cMo_compare 60 = .ok (.aload_n 0, 1) := by decide +kernel
theorem dMo_compare_61 : decode cMo_compare 61 = .ok (.getfield 13, 3) := by decide +kernel
theorem dMo_compare_64 : decode cMo_compare 64 = .ok (.iconst 0, 1) := by decide +kernel
theorem dMo_compare_65 : decode cMo_compare 65 = .ok (.iaload, 1) := by decide +kernel
theorem dMo_compare_66 : decode cMo_compare 66 = .ok (.aload_n 0, 1) := by decide +kernel
theorem dMo_compare_67 : decode cMo_compare 67 = .ok (.getfield 13, 3) := by decide +kernel
theorem dMo_compare_70 : decode cMo_compare 70 = .ok (.iload_n 3, 1) := by decide +kernel
theorem dMo_compare_71 : decode cMo_compare 71 = .ok (.iaload, 1) := by decide +kernel
theorem dMo_compare_72 : decode cMo_compare 72 = .ok (.if_icmp .eq 24, 3) := by decide +kernel
theorem dMo_compare_75 : decode cMo_compare 75 = .ok (.aload_n 0, 1) := by decide +kernel
theorem dMo_compare_76 : decode cMo_compare 76 = .ok (.getfield 13, 3) := by decide +kernel
theorem dMo_compare_79 : decode cMo_compare 79 = .ok (.iconst 0, 1) := by decide +kernel
theorem dMo_compare_80 : decode cMo_compare 80 = .ok (.iaload, 1) := by decide +kernel
theorem dMo_compare_81 : decode cMo_compare 81 = .ok (.aload_n 0, 1) := by decide +kernel
theorem dMo_compare_82 : decode cMo_compare 82 = .ok (.getfield 13, 3) := by decide +kernel
theorem dMo_compare_85 : decode cMo_compare 85 = .ok (.iload_n 3, 1) := by decide +kernel
theorem dMo_compare_86 : decode cMo_compare 86 = .ok (.iaload, 1) := by decide +kernel
theorem dMo_compare_87 : decode cMo_compare 87 = .ok (.if_icmp .ge 7, 3) := by decide +kernel
theorem dMo_compare_90 : decode cMo_compare 90 = .ok (.iconst (-1), 1) := by decide +kernel
theorem dMo_compare_91 : decode cMo_compare 91 = .ok (.goto 4, 3) := by decide +kernel
theorem dMo_compare_94 : decode cMo_compare 94 = .ok (.iconst 1, 1) := by decide +kernel
theorem dMo_compare_95 : decode cMo_compare 95 = .ok (.ireturn, 1) := by decide +kernel
theorem dMo_compare_96 : decode cMo_compare 96 = .ok (.aload_n 0, 1) := by decide +kernel
theorem dMo_compare_97 : decode cMo_compare 97 = .ok (.getfield 13, 3) := by decide +kernel
theorem dMo_compare_100 : decode cMo_compare 100 = .ok (.iconst 0, 1) := by decide +kernel
theorem dMo_compare_101 : decode cMo_compare 101 = .ok (.iaload, 1) := by decide +kernel
theorem dMo_compare_102 : decode cMo_compare 102 = .ok (.ifCond .ge 13, 3) := by decide +kernel
theorem dMo_compare_105 : decode cMo_compare 105 = .ok (.aload_n 0, 1) := by decide +kernel
theorem dMo_compare_106 : decode cMo_compare 106 = .ok (.iconst 0, 1) := by decide +kernel
theorem dMo_compare_107 : decode cMo_compare 107 = .ok (.iload_n 3, 1) := by decide +kernel
theorem dMo_compare_108 : decode cMo_compare 108 = .ok (.invokevirtual 149, 3) := by decide +kernel
theorem dMo_compare_111 : decode cMo_compare 111 = .ok (.ineg, 1) := by decide +kernel
theorem dMo_compare_112 : decode cMo_compare 112 = .ok (.goto 9, 3) := by decide +kernel
theorem dMo_compare_115 : decode cMo_compare 115 = .ok (.aload_n 0, 1) := by decide +kernel
theorem dMo_compare_116 : decode cMo_compare 116 = .ok (.iconst 0, 1) := by decide +kernel
theorem dMo_compare_117 : decode cMo_compare 117 = .ok (.iload_n 3, 1) := by decide +kernel
theorem dMo_compare_118 : decode cMo_compare 118 = .ok (.invokevirtual 149, 3) := by decide +kernel
theorem dMo_compare_121 : decode cMo_compare 121 = .ok (.ireturn, 1) := by decide +kernel
theorem dMo_count_0 : decode cMo_count 0 = .ok (.aload_n 0, 1) := by decide +kernel
theorem dMo_count_1 : decode cMo_count 1 = .ok (.iconst 0, 1) := by decide +kernel
theorem dMo_count_2 : decode cMo_count 2 = .ok (.putfield 35, 3) := by decide +kernel
theorem dMo_count_5 : decode cMo_count 5 = .ok (.iload_n 1, 1) := by decide +kernel
theorem dMo_count_6 : decode cMo_count 6 = .ok (.tableswitch 117 0 7 #[46, 51, 56, 61, 66, 71, 84, 101], 46) := by decide +kernel
theorem dMo_count_52 : decode cMo_count 52 = .ok (.aload_n 0, 1) := by decide +kernel
theorem dMo_count_53 : decode cMo_count 53 = .ok (.getfield 43, 3) := by decide +kernel
theorem dMo_count_56 : decode cMo_count 56 = .ok (.ireturn, 1) := by decide +kernel
theorem dMo_count_57 : decode cMo_count 57 = .ok (.aload_n 0, 1) := by decide +kernel
theorem dMo_count_58 : decode cMo_count 58 = .ok (.getfield 46, 3) := by decide +kernel
theorem dMo_count_61 : decode cMo_count 61 = .ok (.ireturn, 1) := by decide +kernel
theorem dMo_count_62 : decode cMo_count 62 = .ok (.aload_n 0, 1) := by decide +kernel
theorem dMo_count_63 : decode cMo_count 63 = .ok (.getfield 98, 3) := by decide +kernel
theorem dMo_count_66 : decode cMo_count 66 = .ok (.ireturn, 1) := by decide +kernel
theorem dMo_count_67 : decode cMo_count 67 = .ok (.aload_n 0, 1) := by decide +kernel
theorem dMo_count_68 : decode cMo_count 68 = .ok (.getfield 101, 3) := by decide +kernel
theorem dMo_count_71 : decode cMo_count 71 = .ok (.ireturn, 1) := by decide +kernel
theorem dMo_count_72 : decode cMo_count 72 = .ok (.aload_n 0, 1) := by decide +kernel
theorem dMo_count_73 : decode cMo_count 73 = .ok (.getfield 104, 3) := by decide +kernel
theorem dMo_count_76 : decode cMo_count 76 = .ok (.ireturn, 1) := by decide +kernel
theorem dMo_count_77 : decode cMo_count 77 = .ok (.aload_n 0, 1) := by decide +kernel
theorem dMo_count_78 : decode cMo_count 78 = .ok (.invokevirtual 196, 3) := by decide +kernel
theorem dMo_count_81 : decode cMo_count 81 = .ok (.ifCond .eq 7, 3) := by decide +kernel
theorem dMo_count_84 : decode cMo_count 84 = .ok (.iconst 1, 1) := by decide +kernel
theorem dMo_count_85 : decode cMo_count 85 = .ok (.goto 4, 3) := by decide +kernel
theorem dMo_count_88 : decode cMo_count 88 = .ok (.iconst 0, 1) := by decide +kernel
theorem dMo_count_89 : decode cMo_count 89 = .ok (.ireturn, 1) := by decide +kernel
theorem dMo_count_90 : decode cMo_count 90 = .ok (.aload_n 0, 1) := by decide +kernel
theorem dMo_count_91 : decode cMo_count 91 = .ok (.invokevirtual 196, 3) := by decide +kernel
theorem dMo_count_94 : decode cMo_count 94 = .ok (.ifCond .eq 11, 3) := by decide +kernel
theorem dMo_count_97 : decode cMo_count 97 = .ok (.aload_n 0, 1) := by decide +kernel
theorem dMo_count_98 : decode cMo_count 98 = .ok (.iconst 0, 1) := by decide +kernel
theorem dMo_count_99 : decode cMo_count 99 = .ok (.invokevirtual 162, 3) := by decide +kernel
theorem dMo_count_102 : decode cMo_count 102 = .ok (.goto 4, 3) := by decide +kernel
theorem dMo_count_105 : decode cMo_count 105 = .ok (.iconst (-1), 1) := by decide +kernel
theorem dMo_count_106 : decode cMo_count 106 = .ok (.ireturn, 1) := by decide +kernel
theorem dMo_count_107 : decode cMo_count 107 = .ok (.aload_n 0, 1) := by decide +kernel
theorem dMo_count_108 : decode cMo_count 108 = .ok (.invokevirtual 196, 3) := by decide +kernel
theorem dMo_count_111 : decode cMo_count 111 = .ok (.ifCond .eq 10, 3) := by decide +kernel
theorem dMo_count_114 : decode cMo_count 114 = .ok (.aload_n 0, 1) := by decide +kernel
theorem dMo_count_115 : decode cMo_count 115 = .ok (.invokevirtual 209, 3) := by decide +kernel
theorem dMo_count_118 : decode cMo_count 118 = .ok (.goto 4, 3) := by decide +kernel
theorem dMo_count_121 : decode cMo_count 121 = .ok (.iconst (-1), 1) := by decide +kernel
theorem dMo_count_122 : decode cMo_count 122 = .ok (.ireturn, 1) := by decide +kernel
theorem dMo_count_123 : decode cMo_count 123 = .ok (.iconst (-1), 1) := by decide +kernel
theorem dMo_count_124 : decode cMo_count 124 = .ok (.ireturn, 1) := by decide +kernel
theorem dMo_digits_0 : decode cMo_digits 0 = .ok (.aload_n 0, 1) := by decide +kernel
theorem dMo_digits_1 : decode cMo_digits 1 = .ok (.iconst 0, 1) := by decide +kernel
theorem dMo_digits_2 : decode cMo_digits 2 = .ok (.bipush 18, 2) := by decide +kernel
theorem dMo_digits_4 : decode cMo_digits 4 = .ok (.invokevirtual 143, 3) := by decide +kernel
theorem dMo_digits_7 : decode cMo_digits 7 = .ok (.iconst 0, 1) := by decide +kernel
theorem dMo_digits_8 : decode cMo_digits 8 = .ok (.istore_n 1, 1) := by decide +kernel
theorem dMo_digits_9 : decode cMo_digits 9 = .ok (.aload_n 0, 1) := by decide +kernel
theorem dMo_digits_10 : decode cMo_digits 10 = .ok (.bipush 18, 2) := by decide +kernel
theorem dMo_digits_12 : decode cMo_digits 12 = .ok (.invokevirtual 128, 3) := by decide +kernel
theorem dMo_digits_15 : decode cMo_digits 15 = .ok (.ifCond .le 14, 3) := by decide +kernel
theorem dMo_digits_18 : decode cMo_digits 18 = .ok (.aload_n 0, 1) := by decide +kernel
theorem dMo_digits_19 : decode cMo_digits 19 = .ok (.invokevirtual 206, 3) := by decide +kernel
theorem dMo_digits_22 : decode cMo_digits 22 = .ok (.istore_n 2, 1) := by decide +kernel
theorem dMo_digits_23 : decode cMo_digits 23 = .ok (.iinc 1 1, 3) := by decide +kernel
theorem dMo_digits_26 : decode cMo_digits 26 = .ok (.goto (-17), 3) := by decide +kernel
theorem dMo_digits_29 : decode cMo_digits 29 = .ok (.iload_n 1, 1) := by decide +kernel
theorem dMo_digits_30 : decode cMo_digits 30 = .ok (.ifCond .ne 7, 3) := by decide +kernel
theorem dMo_digits_33 : decode cMo_digits 33 = .ok (.iconst 1, 1) := by decide +kernel
theorem dMo_digits_34 : decode cMo_digits 34 = .ok (.goto 4, 3) := by decide +kernel
theorem dMo_digits_37 : decode cMo_digits 37 = .ok (.iload_n 1, 1) := by decide +kernel
theorem dMo_digits_38 : decode cMo_digits 38 = .ok (.ireturn, 1) := by decide +kernel
