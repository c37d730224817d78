/-! decode rows of Natural -/
theorem dNa_init_0 : decode cNa_init 0 = .ok (.aload_n 0, 1) := by decide +kernel
theorem dNa_init_1 : decode cNa_init 1 = .ok (.invokespecial 3, 3) := by decide +kernel
theorem dNa_init_4 : decode cNa_init 4 = .ok (.aload_n 0, 1) := by decide +kernel
theorem dNa_init_5 : decode cNa_init 5 = .ok (.bipush 50, 2) := by decide +kernel
theorem dNa_init_7 : decode cNa_init 7 = .ok (.newarray .long, 2) := by decide +kernel
theorem dNa_init_9 : decode cNa_init 9 = .ok (.putfield 9, 3) := by decide +kernel
theorem dNa_init_12 : decode cNa_init 12 = .ok (.aload_n 0, 1) := by decide +kernel
theorem dNa_init_13 : decode cNa_init 13 = .ok (.iconst 0, 1) := by decide +kernel
theorem dNa_init_14 : decode cNa_init 14 = .ok (.putfield 15, 3) := by decide +kernel
theorem dNa_init_17 : decode cNa_init 17 = .ok (.return_, 1) := by decide +kernel
theorem dNa_becomeLong_0 : decode cNa_becomeLong 0 = .ok (.aload_n 0, 1) := by decide +kernel
theorem dNa_becomeLong_1 : decode cNa_becomeLong 1 = .ok (.getfield 9, 3) := by decide +kernel
theorem dNa_becomeLong_4 : decode cNa_becomeLong 4 = .ok (.iconst 0, 1) := by decide +kernel
theorem dNa_becomeLong_5 : decode cNa_becomeLong 5 = .ok (.lload_n 1, 1) := by decide +kernel
theorem dNa_becomeLong_6 : decode cNa_becomeLong 6 = .ok (.ldc2_w 39, 3) := by decide +kernel
theorem dNa_becomeLong_9 : decode cNa_becomeLong 9 = .ok (.land, 1) := by decide +kernel
theorem dNa_becomeLong_10 : decode cNa_becomeLong 10 = .ok (.lastore, 1) := by decide +kernel
theorem dNa_becomeLong_11 : decode cNa_becomeLong 11 = .ok (.aload_n 0, 1) := by decide +kernel
theorem dNa_becomeLong_12 : decode cNa_becomeLong 12 = .ok (.getfield 9, 3) := by decide +kernel
theorem dNa_becomeLong_15 : decode cNa_becomeLong 15 = .ok (.iconst 1, 1) := by decide +kernel
theorem dNa_becomeLong_16 : decode cNa_becomeLong 16 = .ok (.lload_n 1, 1) := by decide +kernel
theorem dNa_becomeLong_17 : decode cNa_becomeLong 17 = .ok (.bipush 32, 2) := by decide +kernel
theorem dNa_becomeLong_19 : decode cNa_becomeLong 19 = .ok (.lushr, 1) := by decide +kernel
theorem dNa_becomeLong_20 : decode cNa_becomeLong 20 = .ok (.lastore, 1) := by decide +kernel
theorem dNa_becomeLong_21 : decode cNa_becomeLong 21 = .ok (.aload_n 0, 1) := by decide +kernel
theorem dNa_becomeLong_22 : decode cNa_becomeLong 22 = .ok (.iconst 2, 1) := by decide +kernel
theorem dNa_becomeLong_23 : decode cNa_becomeLong 23 = .ok (.invokevirtual 41, 3) := by decide +kernel
theorem dNa_becomeLong_26 : decode cNa_becomeLong 26 = .ok (.return_, 1) := by decide +kernel
theorem dNa_trim_0 : decode cNa_trim 0 = .ok (.aload_n 0, 1) := by decide +kernel
theorem dNa_trim_1 : decode cNa_trim 1 = .ok (.iload_n 1, 1) := by decide +kernel
theorem dNa_trim_2 : decode cNa_trim 2 = .ok (.putfield 15, 3) := by decide +kernel
theorem dNa_trim_5 : decode cNa_trim 5 = .ok (.aload_n 0, 1) := by decide +kernel
theorem dNa_trim_6 : decode cNa_trim 6 = .ok (.getfield 15, 3) := by decide +kernel
theorem dNa_trim_9 : decode cNa_trim 9 = .ok (.ifCond .le 32, 3) := by decide +kernel
theorem dNa_trim_12 : decode cNa_trim 12 = .ok (.aload_n 0, 1) := by decide +kernel
theorem dNa_trim_13 : decode cNa_trim 13 = .ok (.getfield 9, 3) := by decide +kernel
theorem dNa_trim_16 : decode cNa_trim 16 = .ok (.aload_n 0, 1) := by decide +kernel
theorem dNa_trim_17 : decode cNa_trim 17 = .ok (.getfield 15, 3) := by decide +kernel
theorem dNa_trim_20 : decode cNa_trim 20 = .ok (.iconst 1, 1) := by decide +kernel
theorem dNa_trim_21 : decode cNa_trim 21 = .ok (.isub, 1) := by decide +kernel
theorem dNa_trim_22 : decode cNa_trim 22 = .ok (.laload, 1) := by decide +kernel
theorem dNa_trim_23 : decode cNa_trim 23 = .ok (.lconst 0, 1) := by decide +kernel
theorem dNa_trim_24 : decode cNa_trim 24 = .ok (.lcmp, 1) := by decide +kernel
theorem dNa_trim_25 : decode cNa_trim 25 = .ok (.ifCond .ne 16, 3) := by decide +kernel
theorem dNa_trim_28 : decode cNa_trim 28 = .ok (.aload_n 0, 1) := by decide +kernel
theorem dNa_trim_29 : decode cNa_trim 29 = .ok (.dup, 1) := by decide +kernel
theorem dNa_trim_30 : decode cNa_trim 30 = .ok (.getfield 15, 3) := by decide +kernel
theorem dNa_trim_33 : decode cNa_trim 33 = .ok (.iconst 1, 1) := by decide +kernel
theorem dNa_trim_34 : decode cNa_trim 34 = .ok (.isub, 1) := by decide +kernel
theorem dNa_trim_35 : decode cNa_trim 35 = .ok (.putfield 15, 3) := by decide +kernel
theorem dNa_trim_38 : decode cNa_trim 38 = .ok (.goto (-33), 3) := by decide +kernel
theorem dNa_trim_41 : decode cNa_trim 41 = .ok (.return_, 1) := by decide +kernel
theorem dNa_bits_0 : decode cNa_bits 0 = .ok (.aload_n 0, 1) := by decide +kernel
theorem dNa_bits_1 : decode cNa_bits 1 = .ok (.getfield 15, 3) := by decide +kernel
theorem dNa_bits_4 : decode cNa_bits 4 = .ok (.ifCond .ne 5, 3) := by decide +kernel
theorem dNa_bits_7 : decode cNa_bits 7 = .ok (.iconst 0, 1) := by decide +kernel
theorem dNa_bits_8 : decode cNa_bits 8 = .ok (.ireturn, 1) := by decide +kernel
theorem dNa_bits_9 : decode cNa_bits 9 = .ok (.bipush 32, 2) := by decide +kernel
theorem dNa_bits_11 : decode cNa_bits 11 = .ok (.aload_n 0, 1) := by decide +kernel
theorem dNa_bits_12 : decode cNa_bits 12 = .ok (.getfield 15, 3) := by decide +kernel
theorem dNa_bits_15 : decode cNa_bits 15 = .ok (.imul, 1) := by decide +kernel
theorem dNa_bits_16 : decode cNa_bits 16 = .ok (.aload_n 0, 1) := by decide +kernel
theorem dNa_bits_17 : decode cNa_bits 17 = .ok (.invokevirtual 19, 3) := by decide +kernel
theorem dNa_bits_20 : decode cNa_bits 20 = .ok (.isub, 1) := by decide +kernel
theorem dNa_bits_21 : decode cNa_bits 21 = .ok (.ireturn, 1) := by decide +kernel
theorem dNa_freeBits_0 : decode cNa_freeBits 0 = .ok (.aload_n 0, 1) := by decide +kernel
theorem dNa_freeBits_1 : decode cNa_freeBits 1 = .ok (.getfield 15, 3) := by decide +kernel
theorem dNa_freeBits_4 : decode cNa_freeBits 4 = .ok (.ifCond .ne 7, 3) := by decide +kernel
theorem dNa_freeBits_7 : decode cNa_freeBits 7 = .ok (.iconst 0, 1) := by decide +kernel
theorem dNa_freeBits_8 : decode cNa_freeBits 8 = .ok (.goto 20, 3) := by decide +kernel
theorem dNa_freeBits_11 : decode cNa_freeBits 11 = .ok (.aload_n 0, 1) := by decide +kernel
theorem dNa_freeBits_12 : decode cNa_freeBits 12 = .ok (.getfield 9, 3) := by decide +kernel
theorem dNa_freeBits_15 : decode cNa_freeBits 15 = .ok (.aload_n 0, 1) := by decide +kernel
theorem dNa_freeBits_16 : decode cNa_freeBits 16 = .ok (.getfield 15, 3) := by decide +kernel
theorem dNa_freeBits_19 : decode cNa_freeBits 19 = .ok (.iconst 1, 1) := by decide +kernel
theorem dNa_freeBits_20 : decode cNa_freeBits 20 = .ok (.isub, 1) := by decide +kernel
theorem dNa_freeBits_21 : decode cNa_freeBits 21 = .ok (.laload, 1) := by decide +kernel
theorem dNa_freeBits_22 : decode cNa_freeBits 22 = .ok (.invokestatic 23, 3) := by decide +kernel
theorem dNa_freeBits_25 : decode cNa_freeBits 25 = .ok (.bipush 32, 2) := by decide +kernel
theorem dNa_freeBits_27 : decode cNa_freeBits 27 = .ok (.isub, 1) := by decide +kernel
theorem dNa_freeBits_28 : decode cNa_freeBits 28 = .ok (.ireturn, 1) := by decide +kernel
theorem dNa_become_0 : decode cNa_become 0 = .ok (.aload_n 1, 1) := by decide +kernel
theorem dNa_become_1 : decode cNa_become 1 = .ok (.getfield 9, 3) := by decide +kernel
theorem dNa_become_4 : decode cNa_become 4 = .ok (.iconst 0, 1) := by decide +kernel
theorem dNa_become_5 : decode cNa_become 5 = .ok (.aload_n 0, 1) := by decide +kernel
theorem dNa_become_6 : decode cNa_become 6 = .ok (.getfield 9, 3) := by decide +kernel
theorem dNa_become_9 : decode cNa_become 9 = .ok (.iconst 0, 1) := by decide +kernel
theorem dNa_become_10 : decode cNa_become 10 = .ok (.aload_n 1, 1) := by decide +kernel
theorem dNa_become_11 : decode cNa_become 11 = .ok (.getfield 15, 3) := by decide +kernel
theorem dNa_become_14 : decode cNa_become 14 = .ok (.invokestatic 33, 3) := by decide +kernel
theorem dNa_become_17 : decode cNa_become 17 = .ok (.aload_n 0, 1) := by decide +kernel
theorem dNa_become_18 : decode cNa_become 18 = .ok (.aload_n 1, 1) := by decide +kernel
theorem dNa_become_19 : decode cNa_become 19 = .ok (.getfield 15, 3) := by decide +kernel
theorem dNa_become_22 : decode cNa_become 22 = .ok (.putfield 15, 3) := by decide +kernel
theorem dNa_become_25 : decode cNa_become 25 = .ok (.return_, 1) := by decide +kernel
theorem dNa_isZero_0 : decode cNa_isZero 0 = .ok (.aload_n 0, 1) := by decide +kernel
theorem dNa_isZero_1 : decode cNa_isZero 1 = .ok (.getfield 15, 3) := by decide +kernel
theorem dNa_isZero_4 : decode cNa_isZero 4 = .ok (.ifCond .ne 7, 3) := by decide +kernel
theorem dNa_isZero_7 : decode cNa_isZero 7 = .ok (.iconst 1, 1) := by decide +kernel
theorem dNa_isZero_8 : decode cNa_isZero 8 = .ok (.goto 4, 3) := by decide +kernel
theorem dNa_isZero_11 : decode cNa_isZero 11 = .ok (.iconst 0, 1) := by decide +kernel
theorem dNa_isZero_12 : decode cNa_isZero 12 = .ok (.ireturn, 1) := by decide +kernel
theorem dNa_becomeSum_0 : decode cNa_becomeSum 0 = .ok (.aload_n 1, 1) := by decide +kernel
theorem dNa_becomeSum_1 : decode cNa_becomeSum 1 = .ok (.getfield 15, 3) := by decide +kernel
theorem dNa_becomeSum_4 : decode cNa_becomeSum 4 = .ok (.aload_n 2, 1) := by decide +kernel
theorem dNa_becomeSum_5 : decode cNa_becomeSum 5 = .ok (.getfield 15, 3) := by decide +kernel
theorem dNa_becomeSum_8 : decode cNa_becomeSum 8 = .ok (.invokestatic 48, 3) := by decide +kernel
theorem dNa_becomeSum_11 : decode cNa_becomeSum 11 = .ok (.istore_n 3, 1) := by decide +kernel
theorem dNa_becomeSum_12 : decode cNa_becomeSum 12 = .ok (.lconst 0, 1) := by decide +kernel
theorem dNa_becomeSum_13 : decode cNa_becomeSum 13 = .ok (.lstore 4, 2) := by decide +kernel
theorem dNa_becomeSum_15 : decode cNa_becomeSum 15 = .ok (.iconst 0, 1) := by decide +kernel
theorem dNa_becomeSum_16 : decode cNa_becomeSum 16 = .ok (.istore 6, 2) := by decide +kernel
theorem dNa_becomeSum_18 : decode cNa_becomeSum 18 = .ok (.iload 6, 2) := by decide +kernel
theorem dNa_becomeSum_20 : decode cNa_becomeSum 20 = .ok (.iload_n 3, 1) := by decide +kernel
theorem dNa_becomeSum_21 : decode cNa_becomeSum 21 = .ok (.if_icmp .ge 47, 3) := by decide +kernel
theorem dNa_becomeSum_24 : decode cNa_becomeSum 24 = .ok (.aload_n 1, 1) := by decide +kernel
theorem dNa_becomeSum_25 : decode cNa_becomeSum 25 = .ok (.iload 6, 2) := by decide +kernel
theorem dNa_becomeSum_27 : decode cNa_becomeSum 27 = .ok (.invokevirtual 29, 3) := by decide +kernel
theorem dNa_becomeSum_30 : decode cNa_becomeSum 30 = .ok (.aload_n 2, 1) := by decide +kernel
theorem dNa_becomeSum_31 : decode cNa_becomeSum 31 = .ok (.iload 6, 2) := by decide +kernel
theorem dNa_becomeSum_33 : decode cNa_becomeSum 33 = .ok (.invokevirtual 29, 3) := by decide +kernel
theorem dNa_becomeSum_36 : decode cNa_becomeSum 36 = .ok (.ladd, 1) := by decide +kernel
theorem dNa_becomeSum_37 : decode cNa_becomeSum 37 = .ok (.lload 4, 2) := by decide +kernel
theorem dNa_becomeSum_39 : decode cNa_becomeSum 39 = .ok (.ladd, 1) := by decide +kernel
theorem dNa_becomeSum_40 : decode cNa_becomeSum 40 = .ok (.lstore 7, 2) := by decide +kernel
theorem dNa_becomeSum_42 : decode cNa_becomeSum 42 = .ok (.aload_n 0, 1) := by decide +kernel
theorem dNa_becomeSum_43 : decode cNa_becomeSum 43 = .ok (.getfield 9, 3) := by decide +kernel
theorem dNa_becomeSum_46 : decode cNa_becomeSum 46 = .ok (.iload 6, 2) := by decide +kernel
theorem dNa_becomeSum_48 : decode cNa_becomeSum 48 = .ok (.lload 7, 2) := by decide +kernel
theorem dNa_becomeSum_50 : decode cNa_becomeSum 50 = .ok (.ldc2_w 39, 3) := by decide +kernel
theorem dNa_becomeSum_53 : decode cNa_becomeSum 53 = .ok (.land, 1) := by decide +kernel
theorem dNa_becomeSum_54 : decode cNa_becomeSum 54 = .ok (.lastore, 1) := by decide +kernel
theorem dNa_becomeSum_55 : decode cNa_becomeSum 55 = .ok (.lload 7, 2) := by decide +kernel
theorem dNa_becomeSum_57 : decode cNa_becomeSum 57 = .ok (.bipush 32, 2) := by decide +kernel
theorem dNa_becomeSum_59 : decode cNa_becomeSum 59 = .ok (.lushr, 1) := by decide +kernel
theorem dNa_becomeSum_60 : decode cNa_becomeSum 60 = .ok (.lstore 4, 2) := by decide +kernel
theorem dNa_becomeSum_62 : decode cNa_becomeSum 62 = .ok (.iinc 6 1, 3) := by decide +kernel
theorem dNa_becomeSum_65 : decode cNa_becomeSum 65 = .ok (.goto (-47), 3) := by decide +kernel
theorem dNa_becomeSum_68 : decode cNa_becomeSum 68 = .ok (.aload_n 0, 1) := by decide +kernel
theorem dNa_becomeSum_69 : decode cNa_becomeSum 69 = .ok (.getfield 9, 3) := by decide +kernel
theorem dNa_becomeSum_72 : decode cNa_becomeSum 72 = .ok (.iload_n 3, 1) := by decide +kernel
theorem dNa_becomeSum_73 : decode cNa_becomeSum 73 = .ok (.lload 4, 2) := by decide +kernel
theorem dNa_becomeSum_75 : decode cNa_becomeSum 75 = .ok (.lastore, 1) := by decide +kernel
theorem dNa_becomeSum_76 : decode cNa_becomeSum 76 = .ok (.aload_n 0, 1) := by decide +kernel
theorem dNa_becomeSum_77 : decode cNa_becomeSum 77 = .ok (.iload_n 3, 1) := by decide +kernel
theorem dNa_becomeSum_78 : decode cNa_becomeSum 78 = .ok (.iconst 1, 1) := by decide +kernel
theorem dNa_becomeSum_79 : decode cNa_becomeSum 79 = .ok (.iadd, 1) := by decide +kernel
theorem dNa_becomeSum_80 : decode cNa_becomeSum 80 = .ok (.invokevirtual 41, 3) := by decide +kernel
theorem dNa_becomeSum_83 : decode cNa_becomeSum 83 = .ok (.return_, 1) := by decide +kernel
theorem dNa_limbAt_0 : decode cNa_limbAt 0 = .ok (.iload_n 1, 1) := by decide +kernel
theorem dNa_limbAt_1 : decode cNa_limbAt 1 = .ok (.ifCond .lt 20, 3) := by decide +kernel
theorem dNa_limbAt_4 : decode cNa_limbAt 4 = .ok (.iload_n 1, 1) := by decide +kernel
theorem dNa_limbAt_5 : decode cNa_limbAt 5 = .ok (.aload_n 0, 1) := by decide +kernel
theorem dNa_limbAt_6 : decode cNa_limbAt 6 = .ok (.getfield 15, 3) := by decide +kernel
theorem dNa_limbAt_9 : decode cNa_limbAt 9 = .ok (.if_icmp .ge 12, 3) := by decide +kernel
theorem dNa_limbAt_12 : decode cNa_limbAt 12 = .ok (.aload_n 0, 1) := by decide +kernel
theorem dNa_limbAt_13 : decode cNa_limbAt 13 = .ok (.getfield 9, 3) := by decide +kernel
theorem dNa_limbAt_16 : decode cNa_limbAt 16 = .ok (.iload_n 1, 1) := by decide +kernel
theorem dNa_limbAt_17 : decode cNa_limbAt 17 = .ok (.laload, 1) := by decide +kernel
theorem dNa_limbAt_18 : decode cNa_limbAt 18 = .ok (.goto 4, 3) := by decide +kernel
theorem dNa_limbAt_21 : decode cNa_limbAt 21 = .ok (.lconst 0, 1) := by decide +kernel
theorem dNa_limbAt_22 : decode cNa_limbAt 22 = .ok (.lreturn, 1) := by decide +kernel
theorem dNa_order_0 : decode cNa_order 0 = .ok (.aload_n 0, 1) := by decide +kernel
theorem dNa_order_1 : decode cNa_order 1 = .ok (.getfield 15, 3) := by decide +kernel
theorem dNa_order_4 : decode cNa_order 4 = .ok (.aload_n 1, 1) := by decide +kernel
theorem dNa_order_5 : decode cNa_order 5 = .ok (.getfield 15, 3) := by decide +kernel
theorem dNa_order_8 : decode cNa_order 8 = .ok (.if_icmp .eq 20, 3) := by decide +kernel
theorem dNa_order_11 : decode cNa_order 11 = .ok (.aload_n 0, 1) := by decide +kernel
theorem dNa_order_12 : decode cNa_order 12 = .ok (.getfield 15, 3) := by decide +kernel
theorem dNa_order_15 : decode cNa_order 15 = .ok (.aload_n 1, 1) := by decide +kernel
theorem dNa_order_16 : decode cNa_order 16 = .ok (.getfield 15, 3) := by decide +kernel
theorem dNa_order_19 : decode cNa_order 19 = .ok (.if_icmp .ge 7, 3) := by decide +kernel
theorem dNa_order_22 : decode cNa_order 22 = .ok (.iconst (-1), 1) := by decide +kernel
theorem dNa_order_23 : decode cNa_order 23 = .ok (.goto 4, 3) := by decide +kernel
theorem dNa_order_26 : decode cNa_order 26 = .ok (.iconst 1, 1) := by decide +kernel
theorem dNa_order_27 : decode cNa_order 27 = .ok (.ireturn, 1) := by decide +kernel
theorem dNa_order_28 : decode cNa_order 28 = .ok (.aload_n 0, 1) := by decide +kernel
theorem dNa_order_29 : decode cNa_order 29 = .ok (.getfield 15, 3) := by decide +kernel
theorem dNa_order_32 : decode cNa_order 32 = .ok (.iconst 1, 1) := by decide +kernel
theorem dNa_order_33 : decode cNa_order 33 = .ok (.isub, 1) := by decide +kernel
theorem dNa_order_34 : decode cNa_order 34 = .ok (.istore_n 2, 1) := by decide +kernel
theorem dNa_order_35 : decode cNa_order 35 = .ok (.iload_n 2, 1) := by decide +kernel
theorem dNa_order_36 : decode cNa_order 36 = .ok (.ifCond .lt 47, 3) := by decide +kernel
theorem dNa_order_39 : decode cNa_order 39 = .ok (.aload_n 0, 1) := by decide +kernel
theorem dNa_order_40 : decode cNa_order 40 = .ok (.getfield 9, 3) := by decide +kernel
theorem dNa_order_43 : decode cNa_order 43 = .ok (.iload_n 2, 1) := by decide +kernel
theorem dNa_order_44 : decode cNa_order 44 = .ok (.laload, 1) := by decide +kernel
theorem dNa_order_45 : decode cNa_order 45 = .ok (.aload_n 1, 1) := by decide +kernel
theorem dNa_order_46 : decode cNa_order 46 = .ok (.getfield 9, 3) := by decide +kernel
theorem dNa_order_49 : decode cNa_order 49 = .ok (.iload_n 2, 1) := by decide +kernel
theorem dNa_order_50 : decode cNa_order 50 = .ok (.laload, 1) := by decide +kernel
theorem dNa_order_51 : decode cNa_order 51 = .ok (.lcmp, 1) := by decide +kernel
theorem dNa_order_52 : decode cNa_order 52 = .ok (.ifCond .eq 25, 3) := by decide +kernel
theorem dNa_order_55 : decode cNa_order 55 = .ok (.aload_n 0, 1) := by decide +kernel
theorem dNa_order_56 : decode cNa_order 56 = .ok (.getfield 9, 3) := by decide +kernel
theorem dNa_order_59 : decode cNa_order 59 = .ok (.iload_n 2, 1) := by decide +kernel
theorem dNa_order_60 : decode cNa_order 60 = .ok (.laload, 1) := by decide +kernel
theorem dNa_order_61 : decode cNa_order 61 = .ok (.aload_n 1, 1) := by decide +kernel
theorem dNa_order_62 : decode cNa_order 62 = .ok (.getfield 9, 3) := by decide +kernel
theorem dNa_order_65 : decode cNa_order 65 = .ok (.iload_n 2, 1) := by decide +kernel
theorem dNa_order_66 : decode cNa_order 66 = .ok (.laload, 1) := by decide +kernel
theorem dNa_order_67 : decode cNa_order 67 = .ok (.lcmp, 1) := by decide +kernel
theorem dNa_order_68 : decode cNa_order 68 = .ok (.ifCond .ge 7, 3) := by decide +kernel
theorem dNa_order_71 : decode cNa_order 71 = .ok (.iconst (-1), 1) := by decide +kernel
theorem dNa_order_72 : decode cNa_order 72 = .ok (.goto 4, 3) := by decide +kernel
theorem dNa_order_75 : decode cNa_order 75 = .ok (.iconst 1, 1) := by decide +kernel
theorem dNa_order_76 : decode cNa_order 76 = .ok (.ireturn, 1) := by decide +kernel
theorem dNa_order_77 : decode cNa_order 77 = .ok (.iinc 2 (-1), 3) := by decide +kernel
theorem dNa_order_80 : decode cNa_order 80 = .ok (.goto (-45), 3) := by decide +kernel
theorem dNa_order_83 : decode cNa_order 83 = .ok (.iconst 0, 1) := by decide +kernel
theorem dNa_order_84 : decode cNa_order 84 = .ok (.ireturn, 1) := by decide +kernel
theorem dNa_becomeDifference_0 : decode cNa_becomeDifference 0 = .ok (.aload_n 1, 1) := by decide +kernel
theorem dNa_becomeDifference_1 : decode cNa_becomeDifference 1 = .ok (.getfield 15, 3) := by decide +kernel
theorem dNa_becomeDifference_4 : decode cNa_becomeDifference 4 = .ok (.istore_n 3, 1) := by decide +kernel
theorem dNa_becomeDifference_5 : decode cNa_becomeDifference 5 = .ok (.lconst 0, 1) := by decide +kernel
theorem dNa_becomeDifference_6 : decode cNa_becomeDifference 6 = .ok (.lstore 4, 2) := by decide +kernel
theorem dNa_becomeDifference_8 : decode cNa_becomeDifference 8 = .ok (.iconst 0, 1) := by decide +kernel
theorem dNa_becomeDifference_9 : decode cNa_becomeDifference 9 = .ok (.istore 6, 2) := by decide +kernel
theorem dNa_becomeDifference_11 : decode cNa_becomeDifference 11 = .ok (.iload 6, 2) := by decide +kernel
theorem dNa_becomeDifference_13 : decode cNa_becomeDifference 13 = .ok (.iload_n 3, 1) := by decide +kernel
theorem dNa_becomeDifference_14 : decode cNa_becomeDifference 14 = .ok (.if_icmp .ge 55, 3) := by decide +kernel
theorem dNa_becomeDifference_17 : decode cNa_becomeDifference 17 = .ok (.aload_n 1, 1) := by decide +kernel
theorem dNa_becomeDifference_18 : decode cNa_becomeDifference 18 = .ok (.getfield 9, 3) := by decide +kernel
theorem dNa_becomeDifference_21 : decode cNa_becomeDifference 21 = .ok (.iload 6, 2) := by decide +kernel
theorem dNa_becomeDifference_23 : decode cNa_becomeDifference 23 = .ok (.laload, 1) := by decide +kernel
theorem dNa_becomeDifference_24 : decode cNa_becomeDifference 24 = .ok (.aload_n 2, 1) := by decide +kernel
theorem dNa_becomeDifference_25 : decode cNa_becomeDifference 25 = .ok (.iload 6, 2) := by decide +kernel
theorem dNa_becomeDifference_27 : decode cNa_becomeDifference 27 = .ok (.invokevirtual 29, 3) := by decide +kernel
theorem dNa_becomeDifference_30 : decode cNa_becomeDifference 30 = .ok (.lsub, 1) := by decide +kernel
theorem dNa_becomeDifference_31 : decode cNa_becomeDifference 31 = .ok (.lload 4, 2) := by decide +kernel
theorem dNa_becomeDifference_33 : decode cNa_becomeDifference 33 = .ok (.lsub, 1) := by decide +kernel
theorem dNa_becomeDifference_34 : decode cNa_becomeDifference 34 = .ok (.lstore 7, 2) := by decide +kernel
theorem dNa_becomeDifference_36 : decode cNa_becomeDifference 36 = .ok (.aload_n 0, 1) := by decide +kernel
theorem dNa_becomeDifference_37 : decode cNa_becomeDifference 37 = .ok (.getfield 9, 3) := by decide +kernel
theorem dNa_becomeDifference_40 : decode cNa_becomeDifference 40 = .ok (.iload 6, 2) := by decide +kernel
theorem dNa_becomeDifference_42 : decode cNa_becomeDifference 42 = .ok (.lload 7, 2) := by decide +kernel
theorem dNa_becomeDifference_44 : decode cNa_becomeDifference 44 = .ok (.ldc2_w 39, 3) := by decide +kernel
theorem dNa_becomeDifference_47 : decode cNa_becomeDifference 47 = .ok (.land, 1) := by decide +kernel
theorem dNa_becomeDifference_48 : decode cNa_becomeDifference 48 = .ok (.lastore, 1) := by decide +kernel
theorem dNa_becomeDifference_49 : decode cNa_becomeDifference 49 = .ok (.lload 7, 2) := by decide +kernel
theorem dNa_becomeDifference_51 : decode cNa_becomeDifference 51 = .ok (.lconst 0, 1) := by decide +kernel
theorem dNa_becomeDifference_52 : decode cNa_becomeDifference 52 = .ok (.lcmp, 1) := by decide +kernel
theorem dNa_becomeDifference_53 : decode cNa_becomeDifference 53 = .ok (.ifCond .ge 7, 3) := by decide +kernel
theorem dNa_becomeDifference_56 : decode cNa_becomeDifference 56 = .ok (.lconst 1, 1) := by decide +kernel
theorem dNa_becomeDifference_57 : decode cNa_becomeDifference 57 = .ok (.goto 4, 3) := by decide +kernel
theorem dNa_becomeDifference_60 : decode cNa_becomeDifference 60 = .ok (.lconst 0, 1) := by decide +kernel
theorem dNa_becomeDifference_61 : decode cNa_becomeDifference 61 = .ok (.lstore 4, 2) := by decide +kernel
theorem dNa_becomeDifference_63 : decode cNa_becomeDifference 63 = .ok (.iinc 6 1, 3) := by decide +kernel
theorem dNa_becomeDifference_66 : decode cNa_becomeDifference 66 = .ok (.goto (-55), 3) := by decide +kernel
theorem dNa_becomeDifference_69 : decode cNa_becomeDifference 69 = .ok (.aload_n 0, 1) := by decide +kernel
theorem dNa_becomeDifference_70 : decode cNa_becomeDifference 70 = .ok (.iload_n 3, 1) := by decide +kernel
theorem dNa_becomeDifference_71 : decode cNa_becomeDifference 71 = .ok (.invokevirtual 41, 3) := by decide +kernel
theorem dNa_becomeDifference_74 : decode cNa_becomeDifference 74 = .ok (.return_, 1) := by decide +kernel
theorem dNa_isTooGreat_0 : decode cNa_isTooGreat 0 = .ok (.aload_n 0, 1) := by decide +kernel
theorem dNa_isTooGreat_1 : decode cNa_isTooGreat 1 = .ok (.getfield 15, 3) := by decide +kernel
theorem dNa_isTooGreat_4 : decode cNa_isTooGreat 4 = .ok (.bipush 24, 2) := by decide +kernel
theorem dNa_isTooGreat_6 : decode cNa_isTooGreat 6 = .ok (.if_icmp .le 7, 3) := by decide +kernel
theorem dNa_isTooGreat_9 : decode cNa_isTooGreat 9 = .ok (.iconst 1, 1) := by decide +kernel
theorem dNa_isTooGreat_10 : decode cNa_isTooGreat 10 = .ok (.goto 4, 3) := by decide +kernel
theorem dNa_isTooGreat_13 : decode cNa_isTooGreat 13 = .ok (.iconst 0, 1) := by decide +kernel
theorem dNa_isTooGreat_14 : decode cNa_isTooGreat 14 = .ok (.ireturn, 1) := by decide +kernel
theorem dNa_becomeProduct_0 : decode cNa_becomeProduct 0 = .ok (.aload_n 2, 1) := by decide +kernel
theorem dNa_becomeProduct_1 : decode cNa_becomeProduct 1 = .ok (.getfield 15, 3) := by decide +kernel
theorem dNa_becomeProduct_4 : decode cNa_becomeProduct 4 = .ok (.istore_n 3, 1) := by decide +kernel
theorem dNa_becomeProduct_5 : decode cNa_becomeProduct 5 = .ok (.aload_n 0, 1) := by decide +kernel
theorem dNa_becomeProduct_6 : decode cNa_becomeProduct 6 = .ok (.iload_n 3, 1) := by decide +kernel
theorem dNa_becomeProduct_7 : decode cNa_becomeProduct 7 = .ok (.invokevirtual 45, 3) := by decide +kernel
theorem dNa_becomeProduct_10 : decode cNa_becomeProduct 10 = .ok (.iconst 0, 1) := by decide +kernel
theorem dNa_becomeProduct_11 : decode cNa_becomeProduct 11 = .ok (.istore 4, 2) := by decide +kernel
theorem dNa_becomeProduct_13 : decode cNa_becomeProduct 13 = .ok (.iload 4, 2) := by decide +kernel
theorem dNa_becomeProduct_15 : decode cNa_becomeProduct 15 = .ok (.aload_n 1, 1) := by decide +kernel
theorem dNa_becomeProduct_16 : decode cNa_becomeProduct 16 = .ok (.getfield 15, 3) := by decide +kernel
theorem dNa_becomeProduct_19 : decode cNa_becomeProduct 19 = .ok (.if_icmp .ge 96, 3) := by decide +kernel
theorem dNa_becomeProduct_22 : decode cNa_becomeProduct 22 = .ok (.aload_n 1, 1) := by decide +kernel
theorem dNa_becomeProduct_23 : decode cNa_becomeProduct 23 = .ok (.getfield 9, 3) := by decide +kernel
theorem dNa_becomeProduct_26 : decode cNa_becomeProduct 26 = .ok (.iload 4, 2) := by decide +kernel
theorem dNa_becomeProduct_28 : decode cNa_becomeProduct 28 = .ok (.laload, 1) := by decide +kernel
theorem dNa_becomeProduct_29 : decode cNa_becomeProduct 29 = .ok (.lstore 5, 2) := by decide +kernel
theorem dNa_becomeProduct_31 : decode cNa_becomeProduct 31 = .ok (.lconst 0, 1) := by decide +kernel
theorem dNa_becomeProduct_32 : decode cNa_becomeProduct 32 = .ok (.lstore 7, 2) := by decide +kernel
theorem dNa_becomeProduct_34 : decode cNa_becomeProduct 34 = .ok (.iconst 0, 1) := by decide +kernel
theorem dNa_becomeProduct_35 : decode cNa_becomeProduct 35 = .ok (.istore 9, 2) := by decide +kernel
theorem dNa_becomeProduct_37 : decode cNa_becomeProduct 37 = .ok (.iload 9, 2) := by decide +kernel
theorem dNa_becomeProduct_39 : decode cNa_becomeProduct 39 = .ok (.iload_n 3, 1) := by decide +kernel
theorem dNa_becomeProduct_40 : decode cNa_becomeProduct 40 = .ok (.if_icmp .ge 58, 3) := by decide +kernel
theorem dNa_becomeProduct_43 : decode cNa_becomeProduct 43 = .ok (.lload 5, 2) := by decide +kernel
theorem dNa_becomeProduct_45 : decode cNa_becomeProduct 45 = .ok (.aload_n 2, 1) := by decide +kernel
theorem dNa_becomeProduct_46 : decode cNa_becomeProduct 46 = .ok (.getfield 9, 3) := by decide +kernel
theorem dNa_becomeProduct_49 : decode cNa_becomeProduct 49 = .ok (.iload 9, 2) := by decide +kernel
theorem dNa_becomeProduct_51 : decode cNa_becomeProduct 51 = .ok (.laload, 1) := by decide +kernel
theorem dNa_becomeProduct_52 : decode cNa_becomeProduct 52 = .ok (.lmul, 1) := by decide +kernel
theorem dNa_becomeProduct_53 : decode cNa_becomeProduct 53 = .ok (.aload_n 0, 1) := by decide +kernel
theorem dNa_becomeProduct_54 : decode cNa_becomeProduct 54 = .ok (.getfield 9, 3) := by decide +kernel
theorem dNa_becomeProduct_57 : decode cNa_becomeProduct 57 = .ok (.iload 4, 2) := by decide +kernel
theorem dNa_becomeProduct_59 : decode cNa_becomeProduct 59 = .ok (.iload 9, 2) := by decide +kernel
theorem dNa_becomeProduct_61 : decode cNa_becomeProduct 61 = .ok (.iadd, 1) := by decide +kernel
theorem dNa_becomeProduct_62 : decode cNa_becomeProduct 62 = .ok (.laload, 1) := by decide +kernel
theorem dNa_becomeProduct_63 : decode cNa_becomeProduct 63 = .ok (.ladd, 1) := by decide +kernel
theorem dNa_becomeProduct_64 : decode cNa_becomeProduct 64 = .ok (.lload 7, 2) := by decide +kernel
theorem dNa_becomeProduct_66 : decode cNa_becomeProduct 66 = .ok (.ladd, 1) := by decide +kernel
theorem dNa_becomeProduct_67 : decode cNa_becomeProduct 67 = .ok (.lstore 10, 2) := by decide +kernel
theorem dNa_becomeProduct_69 : decode cNa_becomeProduct 69 = .ok (.aload_n 0, 1) := by decide +kernel
theorem dNa_becomeProduct_70 : decode cNa_becomeProduct 70 = .ok (.getfield 9, 3) := by decide +kernel
theorem dNa_becomeProduct_73 : decode cNa_becomeProduct 73 = .ok (.iload 4, 2) := by decide +kernel
theorem dNa_becomeProduct_75 : decode cNa_becomeProduct 75 = .ok (.iload 9, 2) := by decide +kernel
theorem dNa_becomeProduct_77 : decode cNa_becomeProduct 77 = .ok (.iadd, 1) := by decide +kernel
theorem dNa_becomeProduct_78 : decode cNa_becomeProduct 78 = .ok (.lload 10, 2) := by decide +kernel
theorem dNa_becomeProduct_80 : decode cNa_becomeProduct 80 = .ok (.ldc2_w 39, 3) := by decide +kernel
theorem dNa_becomeProduct_83 : decode cNa_becomeProduct 83 = .ok (.land, 1) := by decide +kernel
theorem dNa_becomeProduct_84 : decode cNa_becomeProduct 84 = .ok (.lastore, 1) := by decide +kernel
theorem dNa_becomeProduct_85 : decode cNa_becomeProduct 85 = .ok (.lload 10, 2) := by decide +kernel
theorem dNa_becomeProduct_87 : decode cNa_becomeProduct 87 = .ok (.bipush 32, 2) := by decide +kernel
theorem dNa_becomeProduct_89 : decode cNa_becomeProduct 89 = .ok (.lushr, 1) := by decide +kernel
theorem dNa_becomeProduct_90 : decode cNa_becomeProduct 90 = .ok (.lstore 7, 2) := by decide +kernel
theorem dNa_becomeProduct_92 : decode cNa_becomeProduct 92 = .ok (.iinc 9 1, 3) := by decide +kernel
theorem dNa_becomeProduct_95 : decode cNa_becomeProduct 95 = .ok (.goto (-58), 3) := by decide +kernel
theorem dNa_becomeProduct_98 : decode cNa_becomeProduct 98 = .ok (.aload_n 0, 1) := by decide +kernel
theorem dNa_becomeProduct_99 : decode cNa_becomeProduct 99 = .ok (.getfield 9, 3) := by decide +kernel
theorem dNa_becomeProduct_102 : decode cNa_becomeProduct 102 = .ok (.iload 4, 2) := by decide +kernel
theorem dNa_becomeProduct_104 : decode cNa_becomeProduct 104 = .ok (.iload_n 3, 1) := by decide +kernel
theorem dNa_becomeProduct_105 : decode cNa_becomeProduct 105 = .ok (.iadd, 1) := by decide +kernel
theorem dNa_becomeProduct_106 : decode cNa_becomeProduct 106 = .ok (.lload 7, 2) := by decide +kernel
theorem dNa_becomeProduct_108 : decode cNa_becomeProduct 108 = .ok (.lastore, 1) := by decide +kernel
theorem dNa_becomeProduct_109 : decode cNa_becomeProduct 109 = .ok (.iinc 4 1, 3) := by decide +kernel
theorem dNa_becomeProduct_112 : decode cNa_becomeProduct 112 = .ok (.goto (-99), 3) := by decide +kernel
theorem dNa_becomeProduct_115 : decode cNa_becomeProduct 115 = .ok (.aload_n 0, 1) := by decide +kernel
theorem dNa_becomeProduct_116 : decode cNa_becomeProduct 116 = .ok (.aload_n 1, 1) := by decide +kernel
theorem dNa_becomeProduct_117 : decode cNa_becomeProduct 117 = .ok (.getfield 15, 3) := by decide +kernel
theorem dNa_becomeProduct_120 : decode cNa_becomeProduct 120 = .ok (.iload_n 3, 1) := by decide +kernel
theorem dNa_becomeProduct_121 : decode cNa_becomeProduct 121 = .ok (.iadd, 1) := by decide +kernel
theorem dNa_becomeProduct_122 : decode cNa_becomeProduct 122 = .ok (.invokevirtual 41, 3) := by decide +kernel
theorem dNa_becomeProduct_125 : decode cNa_becomeProduct 125 = .ok (.return_, 1) := by decide +kernel
theorem dNa_clear_0 : decode cNa_clear 0 = .ok (.iconst 0, 1) := by decide +kernel
theorem dNa_clear_1 : decode cNa_clear 1 = .ok (.istore_n 2, 1) := by decide +kernel
theorem dNa_clear_2 : decode cNa_clear 2 = .ok (.iload_n 2, 1) := by decide +kernel
theorem dNa_clear_3 : decode cNa_clear 3 = .ok (.iload_n 1, 1) := by decide +kernel
theorem dNa_clear_4 : decode cNa_clear 4 = .ok (.if_icmp .ge 16, 3) := by decide +kernel
theorem dNa_clear_7 : decode cNa_clear 7 = .ok (.aload_n 0, 1) := by decide +kernel
theorem dNa_clear_8 : decode cNa_clear 8 = .ok (.getfield 9, 3) := by decide +kernel
theorem dNa_clear_11 : decode cNa_clear 11 = .ok (.iload_n 2, 1) := by decide +kernel
theorem dNa_clear_12 : decode cNa_clear 12 = .ok (.lconst 0, 1) := by decide +kernel
theorem dNa_clear_13 : decode cNa_clear 13 = .ok (.lastore, 1) := by decide +kernel
theorem dNa_clear_14 : decode cNa_clear 14 = .ok (.iinc 2 1, 3) := by decide +kernel
theorem dNa_clear_17 : decode cNa_clear 17 = .ok (.goto (-15), 3) := by decide +kernel
theorem dNa_clear_20 : decode cNa_clear 20 = .ok (.return_, 1) := by decide +kernel
theorem dNa_becomeShiftedLeft_0 : decode cNa_becomeShiftedLeft 0 = .ok (.aload_n 1, 1) := by decide +kernel
theorem dNa_becomeShiftedLeft_1 : decode cNa_becomeShiftedLeft 1 = .ok (.getfield 15, 3) := by decide +kernel
theorem dNa_becomeShiftedLeft_4 : decode cNa_becomeShiftedLeft 4 = .ok (.istore_n 3, 1) := by decide +kernel
theorem dNa_becomeShiftedLeft_5 : decode cNa_becomeShiftedLeft 5 = .ok (.lconst 0, 1) := by decide +kernel
theorem dNa_becomeShiftedLeft_6 : decode cNa_becomeShiftedLeft 6 = .ok (.lstore 4, 2) := by decide +kernel
theorem dNa_becomeShiftedLeft_8 : decode cNa_becomeShiftedLeft 8 = .ok (.iconst 0, 1) := by decide +kernel
theorem dNa_becomeShiftedLeft_9 : decode cNa_becomeShiftedLeft 9 = .ok (.istore 6, 2) := by decide +kernel
theorem dNa_becomeShiftedLeft_11 : decode cNa_becomeShiftedLeft 11 = .ok (.iload 6, 2) := by decide +kernel
theorem dNa_becomeShiftedLeft_13 : decode cNa_becomeShiftedLeft 13 = .ok (.iload_n 3, 1) := by decide +kernel
theorem dNa_becomeShiftedLeft_14 : decode cNa_becomeShiftedLeft 14 = .ok (.if_icmp .ge 43, 3) := by decide +kernel
theorem dNa_becomeShiftedLeft_17 : decode cNa_becomeShiftedLeft 17 = .ok (.aload_n 1, 1) := by decide +kernel
theorem dNa_becomeShiftedLeft_18 : decode cNa_becomeShiftedLeft 18 = .ok (.getfield 9, 3) := by decide +kernel
theorem dNa_becomeShiftedLeft_21 : decode cNa_becomeShiftedLeft 21 = .ok (.iload 6, 2) := by decide +kernel
theorem dNa_becomeShiftedLeft_23 : decode cNa_becomeShiftedLeft 23 = .ok (.laload, 1) := by decide +kernel
theorem dNa_becomeShiftedLeft_24 : decode cNa_becomeShiftedLeft 24 = .ok (.iload_n 2, 1) := by decide +kernel
theorem dNa_becomeShiftedLeft_25 : decode cNa_becomeShiftedLeft 25 = .ok (.lshl, 1) := by decide +kernel
theorem dNa_becomeShiftedLeft_26 : decode cNa_becomeShiftedLeft 26 = .ok (.lload 4, 2) := by decide +kernel
theorem dNa_becomeShiftedLeft_28 : decode cNa_becomeShiftedLeft 28 = .ok (.lor, 1) := by decide +kernel
theorem dNa_becomeShiftedLeft_29 : decode cNa_becomeShiftedLeft 29 = .ok (.lstore 7, 2) := by decide +kernel
theorem dNa_becomeShiftedLeft_31 : decode cNa_becomeShiftedLeft 31 = .ok (.aload_n 0, 1) := by decide +kernel
theorem dNa_becomeShiftedLeft_32 : decode cNa_becomeShiftedLeft 32 = .ok (.getfield 9, 3) := by decide +kernel
theorem dNa_becomeShiftedLeft_35 : decode cNa_becomeShiftedLeft 35 = .ok (.iload 6, 2) := by decide +kernel
theorem dNa_becomeShiftedLeft_37 : decode cNa_becomeShiftedLeft 37 = .ok (.lload 7, 2) := by decide +kernel
theorem dNa_becomeShiftedLeft_39 : decode cNa_becomeShiftedLeft 39 = .ok (.ldc2_w 39, 3) := by decide +kernel
theorem dNa_becomeShiftedLeft_42 : decode cNa_becomeShiftedLeft 42 = .ok (.land, 1) := by decide +kernel
theorem dNa_becomeShiftedLeft_43 : decode cNa_becomeShiftedLeft 43 = .ok (.lastore, 1) := by decide +kernel
theorem dNa_becomeShiftedLeft_44 : decode cNa_becomeShiftedLeft 44 = .ok (.lload 7, 2) := by decide +kernel
theorem dNa_becomeShiftedLeft_46 : decode cNa_becomeShiftedLeft 46 = .ok (.bipush 32, 2) := by decide +kernel
theorem dNa_becomeShiftedLeft_48 : decode cNa_becomeShiftedLeft 48 = .ok (.lushr, 1) := by decide +kernel
theorem dNa_becomeShiftedLeft_49 : decode cNa_becomeShiftedLeft 49 = .ok (.lstore 4, 2) := by decide +kernel
theorem dNa_becomeShiftedLeft_51 : decode cNa_becomeShiftedLeft 51 = .ok (.iinc 6 1, 3) := by decide +kernel
theorem dNa_becomeShiftedLeft_54 : decode cNa_becomeShiftedLeft 54 = .ok (.goto (-43), 3) := by decide +kernel
theorem dNa_becomeShiftedLeft_57 : decode cNa_becomeShiftedLeft 57 = .ok (.aload_n 0, 1) := by decide +kernel
theorem dNa_becomeShiftedLeft_58 : decode cNa_becomeShiftedLeft 58 = .ok (.getfield 9, 3) := by decide +kernel
theorem dNa_becomeShiftedLeft_61 : decode cNa_becomeShiftedLeft 61 = .ok (.iload_n 3, 1) := by decide +kernel
theorem dNa_becomeShiftedLeft_62 : decode cNa_becomeShiftedLeft 62 = .ok (.lload 4, 2) := by decide +kernel
theorem dNa_becomeShiftedLeft_64 : decode cNa_becomeShiftedLeft 64 = .ok (.lastore, 1) := by decide +kernel
theorem dNa_becomeShiftedLeft_65 : decode cNa_becomeShiftedLeft 65 = .ok (.aload_n 0, 1) := by decide +kernel
theorem dNa_becomeShiftedLeft_66 : decode cNa_becomeShiftedLeft 66 = .ok (.iload_n 3, 1) := by decide +kernel
theorem dNa_becomeShiftedLeft_67 : decode cNa_becomeShiftedLeft 67 = .ok (.iconst 1, 1) := by decide +kernel
theorem dNa_becomeShiftedLeft_68 : decode cNa_becomeShiftedLeft 68 = .ok (.iadd, 1) := by decide +kernel
theorem dNa_becomeShiftedLeft_69 : decode cNa_becomeShiftedLeft 69 = .ok (.putfield 15, 3) := by decide +kernel
theorem dNa_becomeShiftedLeft_72 : decode cNa_becomeShiftedLeft 72 = .ok (.return_, 1) := by decide +kernel
theorem dNa_shiftRight_0 : decode cNa_shiftRight 0 = .ok (.iconst 0, 1) := by decide +kernel
theorem dNa_shiftRight_1 : decode cNa_shiftRight 1 = .ok (.istore_n 2, 1) := by decide +kernel
theorem dNa_shiftRight_2 : decode cNa_shiftRight 2 = .ok (.iload_n 2, 1) := by decide +kernel
theorem dNa_shiftRight_3 : decode cNa_shiftRight 3 = .ok (.aload_n 0, 1) := by decide +kernel
theorem dNa_shiftRight_4 : decode cNa_shiftRight 4 = .ok (.getfield 15, 3) := by decide +kernel
theorem dNa_shiftRight_7 : decode cNa_shiftRight 7 = .ok (.if_icmp .ge 40, 3) := by decide +kernel
theorem dNa_shiftRight_10 : decode cNa_shiftRight 10 = .ok (.aload_n 0, 1) := by decide +kernel
theorem dNa_shiftRight_11 : decode cNa_shiftRight 11 = .ok (.iload_n 2, 1) := by decide +kernel
theorem dNa_shiftRight_12 : decode cNa_shiftRight 12 = .ok (.iconst 1, 1) := by decide +kernel
theorem dNa_shiftRight_13 : decode cNa_shiftRight 13 = .ok (.iadd, 1) := by decide +kernel
theorem dNa_shiftRight_14 : decode cNa_shiftRight 14 = .ok (.invokevirtual 29, 3) := by decide +kernel
theorem dNa_shiftRight_17 : decode cNa_shiftRight 17 = .ok (.bipush 32, 2) := by decide +kernel
theorem dNa_shiftRight_19 : decode cNa_shiftRight 19 = .ok (.lshl, 1) := by decide +kernel
theorem dNa_shiftRight_20 : decode cNa_shiftRight 20 = .ok (.aload_n 0, 1) := by decide +kernel
theorem dNa_shiftRight_21 : decode cNa_shiftRight 21 = .ok (.getfield 9, 3) := by decide +kernel
theorem dNa_shiftRight_24 : decode cNa_shiftRight 24 = .ok (.iload_n 2, 1) := by decide +kernel
theorem dNa_shiftRight_25 : decode cNa_shiftRight 25 = .ok (.laload, 1) := by decide +kernel
theorem dNa_shiftRight_26 : decode cNa_shiftRight 26 = .ok (.lor, 1) := by decide +kernel
theorem dNa_shiftRight_27 : decode cNa_shiftRight 27 = .ok (.lstore_n 3, 1) := by decide +kernel
theorem dNa_shiftRight_28 : decode cNa_shiftRight 28 = .ok (.aload_n 0, 1) := by decide +kernel
theorem dNa_shiftRight_29 : decode cNa_shiftRight 29 = .ok (.getfield 9, 3) := by decide +kernel
theorem dNa_shiftRight_32 : decode cNa_shiftRight 32 = .ok (.iload_n 2, 1) := by decide +kernel
theorem dNa_shiftRight_33 : decode cNa_shiftRight 33 = .ok (.lload_n 3, 1) := by decide +kernel
theorem dNa_shiftRight_34 : decode cNa_shiftRight 34 = .ok (.iload_n 1, 1) := by decide +kernel
theorem dNa_shiftRight_35 : decode cNa_shiftRight 35 = .ok (.lushr, 1) := by decide +kernel
theorem dNa_shiftRight_36 : decode cNa_shiftRight 36 = .ok (.ldc2_w 39, 3) := by decide +kernel
theorem dNa_shiftRight_39 : decode cNa_shiftRight 39 = .ok (.land, 1) := by decide +kernel
theorem dNa_shiftRight_40 : decode cNa_shiftRight 40 = .ok (.lastore, 1) := by decide +kernel
theorem dNa_shiftRight_41 : decode cNa_shiftRight 41 = .ok (.iinc 2 1, 3) := by decide +kernel
theorem dNa_shiftRight_44 : decode cNa_shiftRight 44 = .ok (.goto (-42), 3) := by decide +kernel
theorem dNa_shiftRight_47 : decode cNa_shiftRight 47 = .ok (.aload_n 0, 1) := by decide +kernel
theorem dNa_shiftRight_48 : decode cNa_shiftRight 48 = .ok (.aload_n 0, 1) := by decide +kernel
theorem dNa_shiftRight_49 : decode cNa_shiftRight 49 = .ok (.getfield 15, 3) := by decide +kernel
theorem dNa_shiftRight_52 : decode cNa_shiftRight 52 = .ok (.invokevirtual 41, 3) := by decide +kernel
theorem dNa_shiftRight_55 : decode cNa_shiftRight 55 = .ok (.return_, 1) := by decide +kernel
theorem dNa_bitAt_0 : decode cNa_bitAt 0 = .ok (.aload_n 0, 1) := by decide +kernel
theorem dNa_bitAt_1 : decode cNa_bitAt 1 = .ok (.iload_n 1, 1) := by decide +kernel
theorem dNa_bitAt_2 : decode cNa_bitAt 2 = .ok (.bipush 32, 2) := by decide +kernel
theorem dNa_bitAt_4 : decode cNa_bitAt 4 = .ok (.idiv, 1) := by decide +kernel
theorem dNa_bitAt_5 : decode cNa_bitAt 5 = .ok (.invokevirtual 29, 3) := by decide +kernel
theorem dNa_bitAt_8 : decode cNa_bitAt 8 = .ok (.iload_n 1, 1) := by decide +kernel
theorem dNa_bitAt_9 : decode cNa_bitAt 9 = .ok (.bipush 32, 2) := by decide +kernel
theorem dNa_bitAt_11 : decode cNa_bitAt 11 = .ok (.irem, 1) := by decide +kernel
theorem dNa_bitAt_12 : decode cNa_bitAt 12 = .ok (.lushr, 1) := by decide +kernel
theorem dNa_bitAt_13 : decode cNa_bitAt 13 = .ok (.lconst 1, 1) := by decide +kernel
theorem dNa_bitAt_14 : decode cNa_bitAt 14 = .ok (.land, 1) := by decide +kernel
theorem dNa_bitAt_15 : decode cNa_bitAt 15 = .ok (.lconst 0, 1) := by decide +kernel
theorem dNa_bitAt_16 : decode cNa_bitAt 16 = .ok (.lcmp, 1) := by decide +kernel
theorem dNa_bitAt_17 : decode cNa_bitAt 17 = .ok (.ifCond .eq 7, 3) := by decide +kernel
theorem dNa_bitAt_20 : decode cNa_bitAt 20 = .ok (.iconst 1, 1) := by decide +kernel
theorem dNa_bitAt_21 : decode cNa_bitAt 21 = .ok (.goto 4, 3) := by decide +kernel
theorem dNa_bitAt_24 : decode cNa_bitAt 24 = .ok (.iconst 0, 1) := by decide +kernel
theorem dNa_bitAt_25 : decode cNa_bitAt 25 = .ok (.ireturn, 1) := by decide +kernel
theorem dNa_becomePowerOfTwo_0 : decode cNa_becomePowerOfTwo 0 = .ok (.iload_n 1, 1) := by decide +kernel
theorem dNa_becomePowerOfTwo_1 : decode cNa_becomePowerOfTwo 1 = .ok (.bipush 32, 2) := by decide +kernel
theorem dNa_becomePowerOfTwo_3 : decode cNa_becomePowerOfTwo 3 = .ok (.idiv, 1) := by decide +kernel
theorem dNa_becomePowerOfTwo_4 : decode cNa_becomePowerOfTwo 4 = .ok (.istore_n 2, 1) := by decide +kernel
theorem dNa_becomePowerOfTwo_5 : decode cNa_becomePowerOfTwo 5 = .ok (.aload_n 0, 1) := by decide +kernel
theorem dNa_becomePowerOfTwo_6 : decode cNa_becomePowerOfTwo 6 = .ok (.iload_n 2, 1) := by decide +kernel
theorem dNa_becomePowerOfTwo_7 : decode cNa_becomePowerOfTwo 7 = .ok (.invokevirtual 45, 3) := by decide +kernel
theorem dNa_becomePowerOfTwo_10 : decode cNa_becomePowerOfTwo 10 = .ok (.aload_n 0, 1) := by decide +kernel
theorem dNa_becomePowerOfTwo_11 : decode cNa_becomePowerOfTwo 11 = .ok (.getfield 9, 3) := by decide +kernel
theorem dNa_becomePowerOfTwo_14 : decode cNa_becomePowerOfTwo 14 = .ok (.iload_n 2, 1) := by decide +kernel
theorem dNa_becomePowerOfTwo_15 : decode cNa_becomePowerOfTwo 15 = .ok (.lconst 1, 1) := by decide +kernel
theorem dNa_becomePowerOfTwo_16 : decode cNa_becomePowerOfTwo 16 = .ok (.iload_n 1, 1) := by decide +kernel
theorem dNa_becomePowerOfTwo_17 : decode cNa_becomePowerOfTwo 17 = .ok (.bipush 32, 2) := by decide +kernel
theorem dNa_becomePowerOfTwo_19 : decode cNa_becomePowerOfTwo 19 = .ok (.irem, 1) := by decide +kernel
theorem dNa_becomePowerOfTwo_20 : decode cNa_becomePowerOfTwo 20 = .ok (.lshl, 1) := by decide +kernel
theorem dNa_becomePowerOfTwo_21 : decode cNa_becomePowerOfTwo 21 = .ok (.lastore, 1) := by decide +kernel
theorem dNa_becomePowerOfTwo_22 : decode cNa_becomePowerOfTwo 22 = .ok (.aload_n 0, 1) := by decide +kernel
theorem dNa_becomePowerOfTwo_23 : decode cNa_becomePowerOfTwo 23 = .ok (.iload_n 2, 1) := by decide +kernel
theorem dNa_becomePowerOfTwo_24 : decode cNa_becomePowerOfTwo 24 = .ok (.iconst 1, 1) := by decide +kernel
theorem dNa_becomePowerOfTwo_25 : decode cNa_becomePowerOfTwo 25 = .ok (.iadd, 1) := by decide +kernel
theorem dNa_becomePowerOfTwo_26 : decode cNa_becomePowerOfTwo 26 = .ok (.putfield 15, 3) := by decide +kernel
theorem dNa_becomePowerOfTwo_29 : decode cNa_becomePowerOfTwo 29 = .ok (.return_, 1) := by decide +kernel
