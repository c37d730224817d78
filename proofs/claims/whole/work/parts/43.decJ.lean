/-! The JDK's methods: decode rows. Written by wip/gen/jdk.py. -/
theorem dJi_numberOfLeadingZeros_0 : decode cJi_numberOfLeadingZeros 0 = .ok (.iload_n 0, 1) := by decide +kernel
theorem dJi_numberOfLeadingZeros_1 : decode cJi_numberOfLeadingZeros 1 = .ok (.ifCond .gt 14, 3) := by decide +kernel
theorem dJi_numberOfLeadingZeros_4 : decode cJi_numberOfLeadingZeros 4 = .ok (.iload_n 0, 1) := by decide +kernel
theorem dJi_numberOfLeadingZeros_5 : decode cJi_numberOfLeadingZeros 5 = .ok (.ifCond .ne 8, 3) := by decide +kernel
theorem dJi_numberOfLeadingZeros_8 : decode cJi_numberOfLeadingZeros 8 = .ok (.bipush 32, 2) := by decide +kernel
theorem dJi_numberOfLeadingZeros_10 : decode cJi_numberOfLeadingZeros 10 = .ok (.goto 4, 3) := by decide +kernel
theorem dJi_numberOfLeadingZeros_13 : decode cJi_numberOfLeadingZeros 13 = .ok (.iconst 0, 1) := by decide +kernel
theorem dJi_numberOfLeadingZeros_14 : decode cJi_numberOfLeadingZeros 14 = .ok (.ireturn, 1) := by decide +kernel
theorem dJi_numberOfLeadingZeros_15 : decode cJi_numberOfLeadingZeros 15 = .ok (.bipush 31, 2) := by decide +kernel
theorem dJi_numberOfLeadingZeros_17 : decode cJi_numberOfLeadingZeros 17 = .ok (.istore_n 1, 1) := by decide +kernel
theorem dJi_numberOfLeadingZeros_18 : decode cJi_numberOfLeadingZeros 18 = .ok (.iload_n 0, 1) := by decide +kernel
theorem dJi_numberOfLeadingZeros_19 : decode cJi_numberOfLeadingZeros 19 = .ok (.ldc_w 264, 3) := by decide +kernel
theorem dJi_numberOfLeadingZeros_22 : decode cJi_numberOfLeadingZeros 22 = .ok (.if_icmp .lt 11, 3) := by decide +kernel
theorem dJi_numberOfLeadingZeros_25 : decode cJi_numberOfLeadingZeros 25 = .ok (.iinc 1 (-16), 3) := by decide +kernel
theorem dJi_numberOfLeadingZeros_28 : decode cJi_numberOfLeadingZeros 28 = .ok (.iload_n 0, 1) := by decide +kernel
theorem dJi_numberOfLeadingZeros_29 : decode cJi_numberOfLeadingZeros 29 = .ok (.bipush 16, 2) := by decide +kernel
theorem dJi_numberOfLeadingZeros_31 : decode cJi_numberOfLeadingZeros 31 = .ok (.iushr, 1) := by decide +kernel
theorem dJi_numberOfLeadingZeros_32 : decode cJi_numberOfLeadingZeros 32 = .ok (.istore_n 0, 1) := by decide +kernel
theorem dJi_numberOfLeadingZeros_33 : decode cJi_numberOfLeadingZeros 33 = .ok (.iload_n 0, 1) := by decide +kernel
theorem dJi_numberOfLeadingZeros_34 : decode cJi_numberOfLeadingZeros 34 = .ok (.sipush 256, 3) := by decide +kernel
theorem dJi_numberOfLeadingZeros_37 : decode cJi_numberOfLeadingZeros 37 = .ok (.if_icmp .lt 11, 3) := by decide +kernel
theorem dJi_numberOfLeadingZeros_40 : decode cJi_numberOfLeadingZeros 40 = .ok (.iinc 1 (-8), 3) := by decide +kernel
theorem dJi_numberOfLeadingZeros_43 : decode cJi_numberOfLeadingZeros 43 = .ok (.iload_n 0, 1) := by decide +kernel
theorem dJi_numberOfLeadingZeros_44 : decode cJi_numberOfLeadingZeros 44 = .ok (.bipush 8, 2) := by decide +kernel
theorem dJi_numberOfLeadingZeros_46 : decode cJi_numberOfLeadingZeros 46 = .ok (.iushr, 1) := by decide +kernel
theorem dJi_numberOfLeadingZeros_47 : decode cJi_numberOfLeadingZeros 47 = .ok (.istore_n 0, 1) := by decide +kernel
theorem dJi_numberOfLeadingZeros_48 : decode cJi_numberOfLeadingZeros 48 = .ok (.iload_n 0, 1) := by decide +kernel
theorem dJi_numberOfLeadingZeros_49 : decode cJi_numberOfLeadingZeros 49 = .ok (.bipush 16, 2) := by decide +kernel
theorem dJi_numberOfLeadingZeros_51 : decode cJi_numberOfLeadingZeros 51 = .ok (.if_icmp .lt 10, 3) := by decide +kernel
theorem dJi_numberOfLeadingZeros_54 : decode cJi_numberOfLeadingZeros 54 = .ok (.iinc 1 (-4), 3) := by decide +kernel
theorem dJi_numberOfLeadingZeros_57 : decode cJi_numberOfLeadingZeros 57 = .ok (.iload_n 0, 1) := by decide +kernel
theorem dJi_numberOfLeadingZeros_58 : decode cJi_numberOfLeadingZeros 58 = .ok (.iconst 4, 1) := by decide +kernel
theorem dJi_numberOfLeadingZeros_59 : decode cJi_numberOfLeadingZeros 59 = .ok (.iushr, 1) := by decide +kernel
theorem dJi_numberOfLeadingZeros_60 : decode cJi_numberOfLeadingZeros 60 = .ok (.istore_n 0, 1) := by decide +kernel
theorem dJi_numberOfLeadingZeros_61 : decode cJi_numberOfLeadingZeros 61 = .ok (.iload_n 0, 1) := by decide +kernel
theorem dJi_numberOfLeadingZeros_62 : decode cJi_numberOfLeadingZeros 62 = .ok (.iconst 4, 1) := by decide +kernel
theorem dJi_numberOfLeadingZeros_63 : decode cJi_numberOfLeadingZeros 63 = .ok (.if_icmp .lt 10, 3) := by decide +kernel
theorem dJi_numberOfLeadingZeros_66 : decode cJi_numberOfLeadingZeros 66 = .ok (.iinc 1 (-2), 3) := by decide +kernel
theorem dJi_numberOfLeadingZeros_69 : decode cJi_numberOfLeadingZeros 69 = .ok (.iload_n 0, 1) := by decide +kernel
theorem dJi_numberOfLeadingZeros_70 : decode cJi_numberOfLeadingZeros 70 = .ok (.iconst 2, 1) := by decide +kernel
theorem dJi_numberOfLeadingZeros_71 : decode cJi_numberOfLeadingZeros 71 = .ok (.iushr, 1) := by decide +kernel
theorem dJi_numberOfLeadingZeros_72 : decode cJi_numberOfLeadingZeros 72 = .ok (.istore_n 0, 1) := by decide +kernel
theorem dJi_numberOfLeadingZeros_73 : decode cJi_numberOfLeadingZeros 73 = .ok (.iload_n 1, 1) := by decide +kernel
theorem dJi_numberOfLeadingZeros_74 : decode cJi_numberOfLeadingZeros 74 = .ok (.iload_n 0, 1) := by decide +kernel
theorem dJi_numberOfLeadingZeros_75 : decode cJi_numberOfLeadingZeros 75 = .ok (.iconst 1, 1) := by decide +kernel
theorem dJi_numberOfLeadingZeros_76 : decode cJi_numberOfLeadingZeros 76 = .ok (.iushr, 1) := by decide +kernel
theorem dJi_numberOfLeadingZeros_77 : decode cJi_numberOfLeadingZeros 77 = .ok (.isub, 1) := by decide +kernel
theorem dJi_numberOfLeadingZeros_78 : decode cJi_numberOfLeadingZeros 78 = .ok (.ireturn, 1) := by decide +kernel
theorem dJl_compare_0 : decode cJl_compare 0 = .ok (.lload_n 0, 1) := by decide +kernel
theorem dJl_compare_1 : decode cJl_compare 1 = .ok (.lload_n 2, 1) := by decide +kernel
theorem dJl_compare_2 : decode cJl_compare 2 = .ok (.lcmp, 1) := by decide +kernel
theorem dJl_compare_3 : decode cJl_compare 3 = .ok (.ifCond .ge 7, 3) := by decide +kernel
theorem dJl_compare_6 : decode cJl_compare 6 = .ok (.iconst (-1), 1) := by decide +kernel
theorem dJl_compare_7 : decode cJl_compare 7 = .ok (.goto 14, 3) := by decide +kernel
theorem dJl_compare_10 : decode cJl_compare 10 = .ok (.lload_n 0, 1) := by decide +kernel
theorem dJl_compare_11 : decode cJl_compare 11 = .ok (.lload_n 2, 1) := by decide +kernel
theorem dJl_compare_12 : decode cJl_compare 12 = .ok (.lcmp, 1) := by decide +kernel
theorem dJl_compare_13 : decode cJl_compare 13 = .ok (.ifCond .ne 7, 3) := by decide +kernel
theorem dJl_compare_16 : decode cJl_compare 16 = .ok (.iconst 0, 1) := by decide +kernel
theorem dJl_compare_17 : decode cJl_compare 17 = .ok (.goto 4, 3) := by decide +kernel
theorem dJl_compare_20 : decode cJl_compare 20 = .ok (.iconst 1, 1) := by decide +kernel
theorem dJl_compare_21 : decode cJl_compare 21 = .ok (.ireturn, 1) := by decide +kernel
theorem dJl_compareUnsigned_0 : decode cJl_compareUnsigned 0 = .ok (.lload_n 0, 1) := by decide +kernel
theorem dJl_compareUnsigned_1 : decode cJl_compareUnsigned 1 = .ok (.ldc2_w 168, 3) := by decide +kernel
theorem dJl_compareUnsigned_4 : decode cJl_compareUnsigned 4 = .ok (.ladd, 1) := by decide +kernel
theorem dJl_compareUnsigned_5 : decode cJl_compareUnsigned 5 = .ok (.lload_n 2, 1) := by decide +kernel
theorem dJl_compareUnsigned_6 : decode cJl_compareUnsigned 6 = .ok (.ldc2_w 168, 3) := by decide +kernel
theorem dJl_compareUnsigned_9 : decode cJl_compareUnsigned 9 = .ok (.ladd, 1) := by decide +kernel
theorem dJl_compareUnsigned_10 : decode cJl_compareUnsigned 10 = .ok (.invokestatic 302, 3) := by decide +kernel
theorem dJl_compareUnsigned_13 : decode cJl_compareUnsigned 13 = .ok (.ireturn, 1) := by decide +kernel
theorem dJl_numberOfLeadingZeros_0 : decode cJl_numberOfLeadingZeros 0 = .ok (.lload_n 0, 1) := by decide +kernel
theorem dJl_numberOfLeadingZeros_1 : decode cJl_numberOfLeadingZeros 1 = .ok (.bipush 32, 2) := by decide +kernel
theorem dJl_numberOfLeadingZeros_3 : decode cJl_numberOfLeadingZeros 3 = .ok (.lushr, 1) := by decide +kernel
theorem dJl_numberOfLeadingZeros_4 : decode cJl_numberOfLeadingZeros 4 = .ok (.l2i, 1) := by decide +kernel
theorem dJl_numberOfLeadingZeros_5 : decode cJl_numberOfLeadingZeros 5 = .ok (.istore_n 2, 1) := by decide +kernel
theorem dJl_numberOfLeadingZeros_6 : decode cJl_numberOfLeadingZeros 6 = .ok (.iload_n 2, 1) := by decide +kernel
theorem dJl_numberOfLeadingZeros_7 : decode cJl_numberOfLeadingZeros 7 = .ok (.ifCond .ne 14, 3) := by decide +kernel
theorem dJl_numberOfLeadingZeros_10 : decode cJl_numberOfLeadingZeros 10 = .ok (.bipush 32, 2) := by decide +kernel
theorem dJl_numberOfLeadingZeros_12 : decode cJl_numberOfLeadingZeros 12 = .ok (.lload_n 0, 1) := by decide +kernel
theorem dJl_numberOfLeadingZeros_13 : decode cJl_numberOfLeadingZeros 13 = .ok (.l2i, 1) := by decide +kernel
theorem dJl_numberOfLeadingZeros_14 : decode cJl_numberOfLeadingZeros 14 = .ok (.invokestatic 308, 3) := by decide +kernel
theorem dJl_numberOfLeadingZeros_17 : decode cJl_numberOfLeadingZeros 17 = .ok (.iadd, 1) := by decide +kernel
theorem dJl_numberOfLeadingZeros_18 : decode cJl_numberOfLeadingZeros 18 = .ok (.goto 7, 3) := by decide +kernel
theorem dJl_numberOfLeadingZeros_21 : decode cJl_numberOfLeadingZeros 21 = .ok (.iload_n 2, 1) := by decide +kernel
theorem dJl_numberOfLeadingZeros_22 : decode cJl_numberOfLeadingZeros 22 = .ok (.invokestatic 308, 3) := by decide +kernel
theorem dJl_numberOfLeadingZeros_25 : decode cJl_numberOfLeadingZeros 25 = .ok (.ireturn, 1) := by decide +kernel
theorem dJm_max_0 : decode cJm_max 0 = .ok (.iload_n 0, 1) := by decide +kernel
theorem dJm_max_1 : decode cJm_max 1 = .ok (.iload_n 1, 1) := by decide +kernel
theorem dJm_max_2 : decode cJm_max 2 = .ok (.if_icmp .lt 7, 3) := by decide +kernel
theorem dJm_max_5 : decode cJm_max 5 = .ok (.iload_n 0, 1) := by decide +kernel
theorem dJm_max_6 : decode cJm_max 6 = .ok (.goto 4, 3) := by decide +kernel
theorem dJm_max_9 : decode cJm_max 9 = .ok (.iload_n 1, 1) := by decide +kernel
theorem dJm_max_10 : decode cJm_max 10 = .ok (.ireturn, 1) := by decide +kernel
