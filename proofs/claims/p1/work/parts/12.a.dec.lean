/-! decode rows of the smaller classes -/
theorem dTo_init_0 : decode cTo_init 0 = .ok (.aload_n 0, 1) := by decide +kernel
theorem dTo_init_1 : decode cTo_init 1 = .ok (.invokespecial 3, 3) := by decide +kernel
theorem dTo_init_4 : decode cTo_init 4 = .ok (.aload_n 0, 1) := by decide +kernel
theorem dTo_init_5 : decode cTo_init 5 = .ok (.bipush 120, 2) := by decide +kernel
theorem dTo_init_7 : decode cTo_init 7 = .ok (.newarray .int, 2) := by decide +kernel
theorem dTo_init_9 : decode cTo_init 9 = .ok (.putfield 9, 3) := by decide +kernel
theorem dTo_init_12 : decode cTo_init 12 = .ok (.aload_n 0, 1) := by decide +kernel
theorem dTo_init_13 : decode cTo_init 13 = .ok (.bipush 120, 2) := by decide +kernel
theorem dTo_init_15 : decode cTo_init 15 = .ok (.newarray .int, 2) := by decide +kernel
theorem dTo_init_17 : decode cTo_init 17 = .ok (.putfield 15, 3) := by decide +kernel
theorem dTo_init_20 : decode cTo_init 20 = .ok (.aload_n 0, 1) := by decide +kernel
theorem dTo_init_21 : decode cTo_init 21 = .ok (.iconst 0, 1) := by decide +kernel
theorem dTo_init_22 : decode cTo_init 22 = .ok (.putfield 18, 3) := by decide +kernel
theorem dTo_init_25 : decode cTo_init 25 = .ok (.return_, 1) := by decide +kernel
theorem dTo_append_0 : decode cTo_append 0 = .ok (.aload_n 0, 1) := by decide +kernel
theorem dTo_append_1 : decode cTo_append 1 = .ok (.getfield 18, 3) := by decide +kernel
theorem dTo_append_4 : decode cTo_append 4 = .ok (.bipush 120, 2) := by decide +kernel
theorem dTo_append_6 : decode cTo_append 6 = .ok (.if_icmp .ge 33, 3) := by decide +kernel
theorem dTo_append_9 : decode cTo_append 9 = .ok (.aload_n 0, 1) := by decide +kernel
theorem dTo_append_10 : decode cTo_append 10 = .ok (.getfield 9, 3) := by decide +kernel
theorem dTo_append_13 : decode cTo_append 13 = .ok (.aload_n 0, 1) := by decide +kernel
theorem dTo_append_14 : decode cTo_append 14 = .ok (.getfield 18, 3) := by decide +kernel
theorem dTo_append_17 : decode cTo_append 17 = .ok (.iload_n 1, 1) := by decide +kernel
theorem dTo_append_18 : decode cTo_append 18 = .ok (.iastore, 1) := by decide +kernel
theorem dTo_append_19 : decode cTo_append 19 = .ok (.aload_n 0, 1) := by decide +kernel
theorem dTo_append_20 : decode cTo_append 20 = .ok (.getfield 15, 3) := by decide +kernel
theorem dTo_append_23 : decode cTo_append 23 = .ok (.aload_n 0, 1) := by decide +kernel
theorem dTo_append_24 : decode cTo_append 24 = .ok (.getfield 18, 3) := by decide +kernel
theorem dTo_append_27 : decode cTo_append 27 = .ok (.iload_n 2, 1) := by decide +kernel
theorem dTo_append_28 : decode cTo_append 28 = .ok (.iastore, 1) := by decide +kernel
theorem dTo_append_29 : decode cTo_append 29 = .ok (.aload_n 0, 1) := by decide +kernel
theorem dTo_append_30 : decode cTo_append 30 = .ok (.dup, 1) := by decide +kernel
theorem dTo_append_31 : decode cTo_append 31 = .ok (.getfield 18, 3) := by decide +kernel
theorem dTo_append_34 : decode cTo_append 34 = .ok (.iconst 1, 1) := by decide +kernel
theorem dTo_append_35 : decode cTo_append 35 = .ok (.iadd, 1) := by decide +kernel
theorem dTo_append_36 : decode cTo_append 36 = .ok (.putfield 18, 3) := by decide +kernel
theorem dTo_append_39 : decode cTo_append 39 = .ok (.return_, 1) := by decide +kernel
theorem dCo_init_0 : decode cCo_init 0 = .ok (.aload_n 0, 1) := by decide +kernel
theorem dCo_init_1 : decode cCo_init 1 = .ok (.invokespecial 3, 3) := by decide +kernel
theorem dCo_init_4 : decode cCo_init 4 = .ok (.aload_n 0, 1) := by decide +kernel
theorem dCo_init_5 : decode cCo_init 5 = .ok (.bipush 120, 2) := by decide +kernel
theorem dCo_init_7 : decode cCo_init 7 = .ok (.newarray .int, 2) := by decide +kernel
theorem dCo_init_9 : decode cCo_init 9 = .ok (.putfield 9, 3) := by decide +kernel
theorem dCo_init_12 : decode cCo_init 12 = .ok (.aload_n 0, 1) := by decide +kernel
theorem dCo_init_13 : decode cCo_init 13 = .ok (.bipush 120, 2) := by decide +kernel
theorem dCo_init_15 : decode cCo_init 15 = .ok (.newarray .int, 2) := by decide +kernel
theorem dCo_init_17 : decode cCo_init 17 = .ok (.putfield 15, 3) := by decide +kernel
theorem dCo_init_20 : decode cCo_init 20 = .ok (.aload_n 0, 1) := by decide +kernel
theorem dCo_init_21 : decode cCo_init 21 = .ok (.iconst 0, 1) := by decide +kernel
theorem dCo_init_22 : decode cCo_init 22 = .ok (.putfield 18, 3) := by decide +kernel
theorem dCo_init_25 : decode cCo_init 25 = .ok (.return_, 1) := by decide +kernel
theorem dCo_append_0 : decode cCo_append 0 = .ok (.aload_n 0, 1) := by decide +kernel
theorem dCo_append_1 : decode cCo_append 1 = .ok (.getfield 18, 3) := by decide +kernel
theorem dCo_append_4 : decode cCo_append 4 = .ok (.bipush 120, 2) := by decide +kernel
theorem dCo_append_6 : decode cCo_append 6 = .ok (.if_icmp .ge 33, 3) := by decide +kernel
theorem dCo_append_9 : decode cCo_append 9 = .ok (.aload_n 0, 1) := by decide +kernel
theorem dCo_append_10 : decode cCo_append 10 = .ok (.getfield 9, 3) := by decide +kernel
theorem dCo_append_13 : decode cCo_append 13 = .ok (.aload_n 0, 1) := by decide +kernel
theorem dCo_append_14 : decode cCo_append 14 = .ok (.getfield 18, 3) := by decide +kernel
theorem dCo_append_17 : decode cCo_append 17 = .ok (.iload_n 1, 1) := by decide +kernel
theorem dCo_append_18 : decode cCo_append 18 = .ok (.iastore, 1) := by decide +kernel
theorem dCo_append_19 : decode cCo_append 19 = .ok (.aload_n 0, 1) := by decide +kernel
theorem dCo_append_20 : decode cCo_append 20 = .ok (.getfield 15, 3) := by decide +kernel
theorem dCo_append_23 : decode cCo_append 23 = .ok (.aload_n 0, 1) := by decide +kernel
theorem dCo_append_24 : decode cCo_append 24 = .ok (.getfield 18, 3) := by decide +kernel
theorem dCo_append_27 : decode cCo_append 27 = .ok (.iload_n 2, 1) := by decide +kernel
theorem dCo_append_28 : decode cCo_append 28 = .ok (.iastore, 1) := by decide +kernel
theorem dCo_append_29 : decode cCo_append 29 = .ok (.aload_n 0, 1) := by decide +kernel
theorem dCo_append_30 : decode cCo_append 30 = .ok (.dup, 1) := by decide +kernel
theorem dCo_append_31 : decode cCo_append 31 = .ok (.getfield 18, 3) := by decide +kernel
theorem dCo_append_34 : decode cCo_append 34 = .ok (.iconst 1, 1) := by decide +kernel
theorem dCo_append_35 : decode cCo_append 35 = .ok (.iadd, 1) := by decide +kernel
theorem dCo_append_36 : decode cCo_append 36 = .ok (.putfield 18, 3) := by decide +kernel
theorem dCo_append_39 : decode cCo_append 39 = .ok (.return_, 1) := by decide +kernel
theorem dCo_registersWanted_0 : decode cCo_registersWanted 0 = .ok (.iconst 0, 1) := by decide +kernel
theorem dCo_registersWanted_1 : decode cCo_registersWanted 1 = .ok (.istore_n 1, 1) := by decide +kernel
theorem dCo_registersWanted_2 : decode cCo_registersWanted 2 = .ok (.iconst 0, 1) := by decide +kernel
theorem dCo_registersWanted_3 : decode cCo_registersWanted 3 = .ok (.istore_n 2, 1) := by decide +kernel
theorem dCo_registersWanted_4 : decode cCo_registersWanted 4 = .ok (.iconst 0, 1) := by decide +kernel
theorem dCo_registersWanted_5 : decode cCo_registersWanted 5 = .ok (.istore_n 3, 1) := by decide +kernel
theorem dCo_registersWanted_6 : decode cCo_registersWanted 6 = .ok (.iload_n 3, 1) := by decide +kernel
theorem dCo_registersWanted_7 : decode cCo_registersWanted 7 = .ok (.aload_n 0, 1) := by decide +kernel
theorem dCo_registersWanted_8 : decode cCo_registersWanted 8 = .ok (.getfield 18, 3) := by decide +kernel
theorem dCo_registersWanted_11 : decode cCo_registersWanted 11 = .ok (.if_icmp .ge 30, 3) := by decide +kernel
theorem dCo_registersWanted_14 : decode cCo_registersWanted 14 = .ok (.iload_n 1, 1) := by decide +kernel
theorem dCo_registersWanted_15 : decode cCo_registersWanted 15 = .ok (.getstatic 22, 3) := by decide +kernel
theorem dCo_registersWanted_18 : decode cCo_registersWanted 18 = .ok (.aload_n 0, 1) := by decide +kernel
theorem dCo_registersWanted_19 : decode cCo_registersWanted 19 = .ok (.getfield 9, 3) := by decide +kernel
theorem dCo_registersWanted_22 : decode cCo_registersWanted 22 = .ok (.iload_n 3, 1) := by decide +kernel
theorem dCo_registersWanted_23 : decode cCo_registersWanted 23 = .ok (.iaload, 1) := by decide +kernel
theorem dCo_registersWanted_24 : decode cCo_registersWanted 24 = .ok (.iaload, 1) := by decide +kernel
theorem dCo_registersWanted_25 : decode cCo_registersWanted 25 = .ok (.isub, 1) := by decide +kernel
theorem dCo_registersWanted_26 : decode cCo_registersWanted 26 = .ok (.iconst 1, 1) := by decide +kernel
theorem dCo_registersWanted_27 : decode cCo_registersWanted 27 = .ok (.iadd, 1) := by decide +kernel
theorem dCo_registersWanted_28 : decode cCo_registersWanted 28 = .ok (.istore_n 1, 1) := by decide +kernel
theorem dCo_registersWanted_29 : decode cCo_registersWanted 29 = .ok (.iload_n 2, 1) := by decide +kernel
theorem dCo_registersWanted_30 : decode cCo_registersWanted 30 = .ok (.iload_n 1, 1) := by decide +kernel
theorem dCo_registersWanted_31 : decode cCo_registersWanted 31 = .ok (.invokestatic 25, 3) := by decide +kernel
theorem dCo_registersWanted_34 : decode cCo_registersWanted 34 = .ok (.istore_n 2, 1) := by decide +kernel
theorem dCo_registersWanted_35 : decode cCo_registersWanted 35 = .ok (.iinc 3 1, 3) := by decide +kernel
theorem dCo_registersWanted_38 : decode cCo_registersWanted 38 = .ok (.goto (-32), 3) := by decide +kernel
theorem dCo_registersWanted_41 : decode cCo_registersWanted 41 = .ok (.iload_n 2, 1) := by decide +kernel
theorem dCo_registersWanted_42 : decode cCo_registersWanted 42 = .ok (.ireturn, 1) := by decide +kernel
theorem dWh_init_0 : decode cWh_init 0 = .ok (.aload_n 0, 1) := by decide +kernel
theorem dWh_init_1 : decode cWh_init 1 = .ok (.invokespecial 1, 3) := by decide +kernel
theorem dWh_init_4 : decode cWh_init 4 = .ok (.aload_n 0, 1) := by decide +kernel
theorem dWh_init_5 : decode cWh_init 5 = .ok (.new 7, 3) := by decide +kernel
theorem dWh_init_8 : decode cWh_init 8 = .ok (.dup, 1) := by decide +kernel
theorem dWh_init_9 : decode cWh_init 9 = .ok (.invokespecial 9, 3) := by decide +kernel
theorem dWh_init_12 : decode cWh_init 12 = .ok (.putfield 10, 3) := by decide +kernel
theorem dWh_init_15 : decode cWh_init 15 = .ok (.aload_n 0, 1) := by decide +kernel
theorem dWh_init_16 : decode cWh_init 16 = .ok (.iconst 0, 1) := by decide +kernel
theorem dWh_init_17 : decode cWh_init 17 = .ok (.putfield 16, 3) := by decide +kernel
theorem dWh_init_20 : decode cWh_init 20 = .ok (.return_, 1) := by decide +kernel
theorem dWh_becomeLong_0 : decode cWh_becomeLong 0 = .ok (.aload_n 0, 1) := by decide +kernel
theorem dWh_becomeLong_1 : decode cWh_becomeLong 1 = .ok (.getfield 10, 3) := by decide +kernel
theorem dWh_becomeLong_4 : decode cWh_becomeLong 4 = .ok (.lload_n 1, 1) := by decide +kernel
theorem dWh_becomeLong_5 : decode cWh_becomeLong 5 = .ok (.lconst 0, 1) := by decide +kernel
theorem dWh_becomeLong_6 : decode cWh_becomeLong 6 = .ok (.lcmp, 1) := by decide +kernel
theorem dWh_becomeLong_7 : decode cWh_becomeLong 7 = .ok (.ifCond .ge 8, 3) := by decide +kernel
theorem dWh_becomeLong_10 : decode cWh_becomeLong 10 = .ok (.lload_n 1, 1) := by decide +kernel
theorem dWh_becomeLong_11 : decode cWh_becomeLong 11 = .ok (.lneg, 1) := by decide +kernel
theorem dWh_becomeLong_12 : decode cWh_becomeLong 12 = .ok (.goto 4, 3) := by decide +kernel
theorem dWh_becomeLong_15 : decode cWh_becomeLong 15 = .ok (.lload_n 1, 1) := by decide +kernel
theorem dWh_becomeLong_16 : decode cWh_becomeLong 16 = .ok (.invokevirtual 24, 3) := by decide +kernel
theorem dWh_becomeLong_19 : decode cWh_becomeLong 19 = .ok (.aload_n 0, 1) := by decide +kernel
theorem dWh_becomeLong_20 : decode cWh_becomeLong 20 = .ok (.lload_n 1, 1) := by decide +kernel
theorem dWh_becomeLong_21 : decode cWh_becomeLong 21 = .ok (.lconst 0, 1) := by decide +kernel
theorem dWh_becomeLong_22 : decode cWh_becomeLong 22 = .ok (.lcmp, 1) := by decide +kernel
theorem dWh_becomeLong_23 : decode cWh_becomeLong 23 = .ok (.ifCond .ge 7, 3) := by decide +kernel
theorem dWh_becomeLong_26 : decode cWh_becomeLong 26 = .ok (.iconst 1, 1) := by decide +kernel
theorem dWh_becomeLong_27 : decode cWh_becomeLong 27 = .ok (.goto 4, 3) := by decide +kernel
theorem dWh_becomeLong_30 : decode cWh_becomeLong 30 = .ok (.iconst 0, 1) := by decide +kernel
theorem dWh_becomeLong_31 : decode cWh_becomeLong 31 = .ok (.putfield 16, 3) := by decide +kernel
theorem dWh_becomeLong_34 : decode cWh_becomeLong 34 = .ok (.return_, 1) := by decide +kernel
theorem dWh_become_0 : decode cWh_become 0 = .ok (.aload_n 0, 1) := by decide +kernel
theorem dWh_become_1 : decode cWh_become 1 = .ok (.getfield 10, 3) := by decide +kernel
theorem dWh_become_4 : decode cWh_become 4 = .ok (.aload_n 1, 1) := by decide +kernel
theorem dWh_become_5 : decode cWh_become 5 = .ok (.getfield 10, 3) := by decide +kernel
theorem dWh_become_8 : decode cWh_become 8 = .ok (.invokevirtual 20, 3) := by decide +kernel
theorem dWh_become_11 : decode cWh_become 11 = .ok (.aload_n 0, 1) := by decide +kernel
theorem dWh_become_12 : decode cWh_become 12 = .ok (.aload_n 1, 1) := by decide +kernel
theorem dWh_become_13 : decode cWh_become 13 = .ok (.getfield 16, 3) := by decide +kernel
theorem dWh_become_16 : decode cWh_become 16 = .ok (.putfield 16, 3) := by decide +kernel
theorem dWh_become_19 : decode cWh_become 19 = .ok (.return_, 1) := by decide +kernel
theorem dWh_negate_0 : decode cWh_negate 0 = .ok (.aload_n 0, 1) := by decide +kernel
theorem dWh_negate_1 : decode cWh_negate 1 = .ok (.aload_n 0, 1) := by decide +kernel
theorem dWh_negate_2 : decode cWh_negate 2 = .ok (.getfield 16, 3) := by decide +kernel
theorem dWh_negate_5 : decode cWh_negate 5 = .ok (.ifCond .ne 17, 3) := by decide +kernel
theorem dWh_negate_8 : decode cWh_negate 8 = .ok (.aload_n 0, 1) := by decide +kernel
theorem dWh_negate_9 : decode cWh_negate 9 = .ok (.getfield 10, 3) := by decide +kernel
theorem dWh_negate_12 : decode cWh_negate 12 = .ok (.invokevirtual 28, 3) := by decide +kernel
theorem dWh_negate_15 : decode cWh_negate 15 = .ok (.ifCond .ne 7, 3) := by decide +kernel
theorem dWh_negate_18 : decode cWh_negate 18 = .ok (.iconst 1, 1) := by decide +kernel
theorem dWh_negate_19 : decode cWh_negate 19 = .ok (.goto 4, 3) := by decide +kernel
theorem dWh_negate_22 : decode cWh_negate 22 = .ok (.iconst 0, 1) := by decide +kernel
theorem dWh_negate_23 : decode cWh_negate 23 = .ok (.putfield 16, 3) := by decide +kernel
theorem dWh_negate_26 : decode cWh_negate 26 = .ok (.return_, 1) := by decide +kernel
theorem dWh_signum_0 : decode cWh_signum 0 = .ok (.aload_n 0, 1) := by decide +kernel
theorem dWh_signum_1 : decode cWh_signum 1 = .ok (.getfield 10, 3) := by decide +kernel
theorem dWh_signum_4 : decode cWh_signum 4 = .ok (.invokevirtual 28, 3) := by decide +kernel
theorem dWh_signum_7 : decode cWh_signum 7 = .ok (.ifCond .eq 5, 3) := by decide +kernel
theorem dWh_signum_10 : decode cWh_signum 10 = .ok (.iconst 0, 1) := by decide +kernel
theorem dWh_signum_11 : decode cWh_signum 11 = .ok (.ireturn, 1) := by decide +kernel
theorem dWh_signum_12 : decode cWh_signum 12 = .ok (.aload_n 0, 1) := by decide +kernel
theorem dWh_signum_13 : decode cWh_signum 13 = .ok (.getfield 16, 3) := by decide +kernel
theorem dWh_signum_16 : decode cWh_signum 16 = .ok (.ifCond .eq 7, 3) := by decide +kernel
theorem dWh_signum_19 : decode cWh_signum 19 = .ok (.iconst (-1), 1) := by decide +kernel
theorem dWh_signum_20 : decode cWh_signum 20 = .ok (.goto 4, 3) := by decide +kernel
theorem dWh_signum_23 : decode cWh_signum 23 = .ok (.iconst 1, 1) := by decide +kernel
theorem dWh_signum_24 : decode cWh_signum 24 = .ok (.ireturn, 1) := by decide +kernel
theorem dWh_order_0 : decode cWh_order 0 = .ok (.aload_n 0, 1) := by decide +kernel
theorem dWh_order_1 : decode cWh_order 1 = .ok (.getfield 16, 3) := by decide +kernel
theorem dWh_order_4 : decode cWh_order 4 = .ok (.aload_n 1, 1) := by decide +kernel
theorem dWh_order_5 : decode cWh_order 5 = .ok (.getfield 16, 3) := by decide +kernel
theorem dWh_order_8 : decode cWh_order 8 = .ok (.if_icmp .eq 16, 3) := by decide +kernel
theorem dWh_order_11 : decode cWh_order 11 = .ok (.aload_n 0, 1) := by decide +kernel
theorem dWh_order_12 : decode cWh_order 12 = .ok (.getfield 16, 3) := by decide +kernel
theorem dWh_order_15 : decode cWh_order 15 = .ok (.ifCond .eq 7, 3) := by decide +kernel
theorem dWh_order_18 : decode cWh_order 18 = .ok (.iconst (-1), 1) := by decide +kernel
theorem dWh_order_19 : decode cWh_order 19 = .ok (.goto 4, 3) := by decide +kernel
theorem dWh_order_22 : decode cWh_order 22 = .ok (.iconst 1, 1) := by decide +kernel
theorem dWh_order_23 : decode cWh_order 23 = .ok (.ireturn, 1) := by decide +kernel
theorem dWh_order_24 : decode cWh_order 24 = .ok (.aload_n 0, 1) := by decide +kernel
theorem dWh_order_25 : decode cWh_order 25 = .ok (.getfield 10, 3) := by decide +kernel
theorem dWh_order_28 : decode cWh_order 28 = .ok (.aload_n 1, 1) := by decide +kernel
theorem dWh_order_29 : decode cWh_order 29 = .ok (.getfield 10, 3) := by decide +kernel
theorem dWh_order_32 : decode cWh_order 32 = .ok (.invokevirtual 32, 3) := by decide +kernel
theorem dWh_order_35 : decode cWh_order 35 = .ok (.istore_n 2, 1) := by decide +kernel
theorem dWh_order_36 : decode cWh_order 36 = .ok (.aload_n 0, 1) := by decide +kernel
theorem dWh_order_37 : decode cWh_order 37 = .ok (.getfield 16, 3) := by decide +kernel
theorem dWh_order_40 : decode cWh_order 40 = .ok (.ifCond .eq 8, 3) := by decide +kernel
theorem dWh_order_43 : decode cWh_order 43 = .ok (.iload_n 2, 1) := by decide +kernel
theorem dWh_order_44 : decode cWh_order 44 = .ok (.ineg, 1) := by decide +kernel
theorem dWh_order_45 : decode cWh_order 45 = .ok (.goto 4, 3) := by decide +kernel
theorem dWh_order_48 : decode cWh_order 48 = .ok (.iload_n 2, 1) := by decide +kernel
theorem dWh_order_49 : decode cWh_order 49 = .ok (.ireturn, 1) := by decide +kernel
theorem dDe_init_0 : decode cDe_init 0 = .ok (.aload_n 0, 1) := by decide +kernel
theorem dDe_init_1 : decode cDe_init 1 = .ok (.invokespecial 3, 3) := by decide +kernel
theorem dDe_init_4 : decode cDe_init 4 = .ok (.aload_n 0, 1) := by decide +kernel
theorem dDe_init_5 : decode cDe_init 5 = .ok (.new 9, 3) := by decide +kernel
theorem dDe_init_8 : decode cDe_init 8 = .ok (.dup, 1) := by decide +kernel
theorem dDe_init_9 : decode cDe_init 9 = .ok (.invokespecial 11, 3) := by decide +kernel
theorem dDe_init_12 : decode cDe_init 12 = .ok (.putfield 12, 3) := by decide +kernel
theorem dDe_init_15 : decode cDe_init 15 = .ok (.return_, 1) := by decide +kernel
theorem dDe_length_0 : decode cDe_length 0 = .ok (.aload_n 0, 1) := by decide +kernel
theorem dDe_length_1 : decode cDe_length 1 = .ok (.getfield 12, 3) := by decide +kernel
theorem dDe_length_4 : decode cDe_length 4 = .ok (.aload_n 1, 1) := by decide +kernel
theorem dDe_length_5 : decode cDe_length 5 = .ok (.invokevirtual 18, 3) := by decide +kernel
theorem dDe_length_8 : decode cDe_length 8 = .ok (.iconst 0, 1) := by decide +kernel
theorem dDe_length_9 : decode cDe_length 9 = .ok (.istore_n 2, 1) := by decide +kernel
theorem dDe_length_10 : decode cDe_length 10 = .ok (.aload_n 0, 1) := by decide +kernel
theorem dDe_length_11 : decode cDe_length 11 = .ok (.invokevirtual 22, 3) := by decide +kernel
theorem dDe_length_14 : decode cDe_length 14 = .ok (.lstore_n 3, 1) := by decide +kernel
theorem dDe_length_15 : decode cDe_length 15 = .ok (.iconst 0, 1) := by decide +kernel
theorem dDe_length_16 : decode cDe_length 16 = .ok (.istore 5, 2) := by decide +kernel
theorem dDe_length_18 : decode cDe_length 18 = .ok (.iload 5, 2) := by decide +kernel
theorem dDe_length_20 : decode cDe_length 20 = .ok (.sipush 232, 3) := by decide +kernel
theorem dDe_length_23 : decode cDe_length 23 = .ok (.if_icmp .ge 27, 3) := by decide +kernel
theorem dDe_length_26 : decode cDe_length 26 = .ok (.aload_n 0, 1) := by decide +kernel
theorem dDe_length_27 : decode cDe_length 27 = .ok (.getfield 12, 3) := by decide +kernel
theorem dDe_length_30 : decode cDe_length 30 = .ok (.invokevirtual 28, 3) := by decide +kernel
theorem dDe_length_33 : decode cDe_length 33 = .ok (.ifCond .ne 17, 3) := by decide +kernel
theorem dDe_length_36 : decode cDe_length 36 = .ok (.iinc 2 9, 3) := by decide +kernel
theorem dDe_length_39 : decode cDe_length 39 = .ok (.aload_n 0, 1) := by decide +kernel
theorem dDe_length_40 : decode cDe_length 40 = .ok (.invokevirtual 22, 3) := by decide +kernel
theorem dDe_length_43 : decode cDe_length 43 = .ok (.lstore_n 3, 1) := by decide +kernel
theorem dDe_length_44 : decode cDe_length 44 = .ok (.iinc 5 1, 3) := by decide +kernel
theorem dDe_length_47 : decode cDe_length 47 = .ok (.goto (-29), 3) := by decide +kernel
theorem dDe_length_50 : decode cDe_length 50 = .ok (.iconst 1, 1) := by decide +kernel
theorem dDe_length_51 : decode cDe_length 51 = .ok (.istore 5, 2) := by decide +kernel
theorem dDe_length_53 : decode cDe_length 53 = .ok (.iconst 1, 1) := by decide +kernel
theorem dDe_length_54 : decode cDe_length 54 = .ok (.istore 6, 2) := by decide +kernel
theorem dDe_length_56 : decode cDe_length 56 = .ok (.iload 6, 2) := by decide +kernel
theorem dDe_length_58 : decode cDe_length 58 = .ok (.bipush 9, 2) := by decide +kernel
theorem dDe_length_60 : decode cDe_length 60 = .ok (.if_icmp .ge 26, 3) := by decide +kernel
theorem dDe_length_63 : decode cDe_length 63 = .ok (.lload_n 3, 1) := by decide +kernel
theorem dDe_length_64 : decode cDe_length 64 = .ok (.ldc2_w 26, 3) := by decide +kernel
theorem dDe_length_67 : decode cDe_length 67 = .ok (.lcmp, 1) := by decide +kernel
theorem dDe_length_68 : decode cDe_length 68 = .ok (.ifCond .lt 18, 3) := by decide +kernel
theorem dDe_length_71 : decode cDe_length 71 = .ok (.lload_n 3, 1) := by decide +kernel
theorem dDe_length_72 : decode cDe_length 72 = .ok (.ldc2_w 26, 3) := by decide +kernel
theorem dDe_length_75 : decode cDe_length 75 = .ok (.ldiv, 1) := by decide +kernel
theorem dDe_length_76 : decode cDe_length 76 = .ok (.lstore_n 3, 1) := by decide +kernel
theorem dDe_length_77 : decode cDe_length 77 = .ok (.iinc 5 1, 3) := by decide +kernel
theorem dDe_length_80 : decode cDe_length 80 = .ok (.iinc 6 1, 3) := by decide +kernel
theorem dDe_length_83 : decode cDe_length 83 = .ok (.goto (-27), 3) := by decide +kernel
theorem dDe_length_86 : decode cDe_length 86 = .ok (.iload_n 2, 1) := by decide +kernel
theorem dDe_length_87 : decode cDe_length 87 = .ok (.iload 5, 2) := by decide +kernel
theorem dDe_length_89 : decode cDe_length 89 = .ok (.iadd, 1) := by decide +kernel
theorem dDe_length_90 : decode cDe_length 90 = .ok (.ireturn, 1) := by decide +kernel
theorem dDe_takeGroup_0 : decode cDe_takeGroup 0 = .ok (.lconst 0, 1) := by decide +kernel
theorem dDe_takeGroup_1 : decode cDe_takeGroup 1 = .ok (.lstore_n 1, 1) := by decide +kernel
theorem dDe_takeGroup_2 : decode cDe_takeGroup 2 = .ok (.aload_n 0, 1) := by decide +kernel
theorem dDe_takeGroup_3 : decode cDe_takeGroup 3 = .ok (.getfield 12, 3) := by decide +kernel
theorem dDe_takeGroup_6 : decode cDe_takeGroup 6 = .ok (.getfield 32, 3) := by decide +kernel
theorem dDe_takeGroup_9 : decode cDe_takeGroup 9 = .ok (.iconst 1, 1) := by decide +kernel
theorem dDe_takeGroup_10 : decode cDe_takeGroup 10 = .ok (.isub, 1) := by decide +kernel
theorem dDe_takeGroup_11 : decode cDe_takeGroup 11 = .ok (.istore_n 3, 1) := by decide +kernel
theorem dDe_takeGroup_12 : decode cDe_takeGroup 12 = .ok (.iload_n 3, 1) := by decide +kernel
theorem dDe_takeGroup_13 : decode cDe_takeGroup 13 = .ok (.ifCond .lt 47, 3) := by decide +kernel
theorem dDe_takeGroup_16 : decode cDe_takeGroup 16 = .ok (.lload_n 1, 1) := by decide +kernel
theorem dDe_takeGroup_17 : decode cDe_takeGroup 17 = .ok (.bipush 32, 2) := by decide +kernel
theorem dDe_takeGroup_19 : decode cDe_takeGroup 19 = .ok (.lshl, 1) := by decide +kernel
theorem dDe_takeGroup_20 : decode cDe_takeGroup 20 = .ok (.aload_n 0, 1) := by decide +kernel
theorem dDe_takeGroup_21 : decode cDe_takeGroup 21 = .ok (.getfield 12, 3) := by decide +kernel
theorem dDe_takeGroup_24 : decode cDe_takeGroup 24 = .ok (.getfield 36, 3) := by decide +kernel
theorem dDe_takeGroup_27 : decode cDe_takeGroup 27 = .ok (.iload_n 3, 1) := by decide +kernel
theorem dDe_takeGroup_28 : decode cDe_takeGroup 28 = .ok (.laload, 1) := by decide +kernel
theorem dDe_takeGroup_29 : decode cDe_takeGroup 29 = .ok (.lor, 1) := by decide +kernel
theorem dDe_takeGroup_30 : decode cDe_takeGroup 30 = .ok (.lstore 4, 2) := by decide +kernel
theorem dDe_takeGroup_32 : decode cDe_takeGroup 32 = .ok (.aload_n 0, 1) := by decide +kernel
theorem dDe_takeGroup_33 : decode cDe_takeGroup 33 = .ok (.getfield 12, 3) := by decide +kernel
theorem dDe_takeGroup_36 : decode cDe_takeGroup 36 = .ok (.getfield 36, 3) := by decide +kernel
theorem dDe_takeGroup_39 : decode cDe_takeGroup 39 = .ok (.iload_n 3, 1) := by decide +kernel
theorem dDe_takeGroup_40 : decode cDe_takeGroup 40 = .ok (.lload 4, 2) := by decide +kernel
theorem dDe_takeGroup_42 : decode cDe_takeGroup 42 = .ok (.ldc2_w 40, 3) := by decide +kernel
theorem dDe_takeGroup_45 : decode cDe_takeGroup 45 = .ok (.ldiv, 1) := by decide +kernel
theorem dDe_takeGroup_46 : decode cDe_takeGroup 46 = .ok (.lastore, 1) := by decide +kernel
theorem dDe_takeGroup_47 : decode cDe_takeGroup 47 = .ok (.lload 4, 2) := by decide +kernel
theorem dDe_takeGroup_49 : decode cDe_takeGroup 49 = .ok (.ldc2_w 40, 3) := by decide +kernel
theorem dDe_takeGroup_52 : decode cDe_takeGroup 52 = .ok (.lrem, 1) := by decide +kernel
theorem dDe_takeGroup_53 : decode cDe_takeGroup 53 = .ok (.lstore_n 1, 1) := by decide +kernel
theorem dDe_takeGroup_54 : decode cDe_takeGroup 54 = .ok (.iinc 3 (-1), 3) := by decide +kernel
theorem dDe_takeGroup_57 : decode cDe_takeGroup 57 = .ok (.goto (-45), 3) := by decide +kernel
theorem dDe_takeGroup_60 : decode cDe_takeGroup 60 = .ok (.aload_n 0, 1) := by decide +kernel
theorem dDe_takeGroup_61 : decode cDe_takeGroup 61 = .ok (.getfield 12, 3) := by decide +kernel
theorem dDe_takeGroup_64 : decode cDe_takeGroup 64 = .ok (.aload_n 0, 1) := by decide +kernel
theorem dDe_takeGroup_65 : decode cDe_takeGroup 65 = .ok (.getfield 12, 3) := by decide +kernel
theorem dDe_takeGroup_68 : decode cDe_takeGroup 68 = .ok (.getfield 32, 3) := by decide +kernel
theorem dDe_takeGroup_71 : decode cDe_takeGroup 71 = .ok (.invokevirtual 42, 3) := by decide +kernel
theorem dDe_takeGroup_74 : decode cDe_takeGroup 74 = .ok (.lload_n 1, 1) := by decide +kernel
theorem dDe_takeGroup_75 : decode cDe_takeGroup 75 = .ok (.lreturn, 1) := by decide +kernel
theorem dDe_digitAt_0 : decode cDe_digitAt 0 = .ok (.iload_n 2, 1) := by decide +kernel
theorem dDe_digitAt_1 : decode cDe_digitAt 1 = .ok (.ifCond .lt 10, 3) := by decide +kernel
theorem dDe_digitAt_4 : decode cDe_digitAt 4 = .ok (.iload_n 2, 1) := by decide +kernel
theorem dDe_digitAt_5 : decode cDe_digitAt 5 = .ok (.sipush 232, 3) := by decide +kernel
theorem dDe_digitAt_8 : decode cDe_digitAt 8 = .ok (.if_icmp .lt 5, 3) := by decide +kernel
theorem dDe_digitAt_11 : decode cDe_digitAt 11 = .ok (.iconst 0, 1) := by decide +kernel
theorem dDe_digitAt_12 : decode cDe_digitAt 12 = .ok (.ireturn, 1) := by decide +kernel
theorem dDe_digitAt_13 : decode cDe_digitAt 13 = .ok (.aload_n 0, 1) := by decide +kernel
theorem dDe_digitAt_14 : decode cDe_digitAt 14 = .ok (.getfield 12, 3) := by decide +kernel
theorem dDe_digitAt_17 : decode cDe_digitAt 17 = .ok (.aload_n 1, 1) := by decide +kernel
theorem dDe_digitAt_18 : decode cDe_digitAt 18 = .ok (.invokevirtual 18, 3) := by decide +kernel
theorem dDe_digitAt_21 : decode cDe_digitAt 21 = .ok (.iconst 0, 1) := by decide +kernel
theorem dDe_digitAt_22 : decode cDe_digitAt 22 = .ok (.istore_n 3, 1) := by decide +kernel
theorem dDe_digitAt_23 : decode cDe_digitAt 23 = .ok (.iload_n 3, 1) := by decide +kernel
theorem dDe_digitAt_24 : decode cDe_digitAt 24 = .ok (.iload_n 2, 1) := by decide +kernel
theorem dDe_digitAt_25 : decode cDe_digitAt 25 = .ok (.bipush 9, 2) := by decide +kernel
theorem dDe_digitAt_27 : decode cDe_digitAt 27 = .ok (.idiv, 1) := by decide +kernel
theorem dDe_digitAt_28 : decode cDe_digitAt 28 = .ok (.if_icmp .ge 14, 3) := by decide +kernel
theorem dDe_digitAt_31 : decode cDe_digitAt 31 = .ok (.aload_n 0, 1) := by decide +kernel
theorem dDe_digitAt_32 : decode cDe_digitAt 32 = .ok (.invokevirtual 22, 3) := by decide +kernel
theorem dDe_digitAt_35 : decode cDe_digitAt 35 = .ok (.pop2, 1) := by decide +kernel
theorem dDe_digitAt_36 : decode cDe_digitAt 36 = .ok (.iinc 3 1, 3) := by decide +kernel
theorem dDe_digitAt_39 : decode cDe_digitAt 39 = .ok (.goto (-16), 3) := by decide +kernel
theorem dDe_digitAt_42 : decode cDe_digitAt 42 = .ok (.aload_n 0, 1) := by decide +kernel
theorem dDe_digitAt_43 : decode cDe_digitAt 43 = .ok (.invokevirtual 22, 3) := by decide +kernel
theorem dDe_digitAt_46 : decode cDe_digitAt 46 = .ok (.lstore_n 3, 1) := by decide +kernel
theorem dDe_digitAt_47 : decode cDe_digitAt 47 = .ok (.iconst 0, 1) := by decide +kernel
theorem dDe_digitAt_48 : decode cDe_digitAt 48 = .ok (.istore 5, 2) := by decide +kernel
theorem dDe_digitAt_50 : decode cDe_digitAt 50 = .ok (.iload 5, 2) := by decide +kernel
theorem dDe_digitAt_52 : decode cDe_digitAt 52 = .ok (.iload_n 2, 1) := by decide +kernel
theorem dDe_digitAt_53 : decode cDe_digitAt 53 = .ok (.bipush 9, 2) := by decide +kernel
theorem dDe_digitAt_55 : decode cDe_digitAt 55 = .ok (.irem, 1) := by decide +kernel
theorem dDe_digitAt_56 : decode cDe_digitAt 56 = .ok (.if_icmp .ge 15, 3) := by decide +kernel
theorem dDe_digitAt_59 : decode cDe_digitAt 59 = .ok (.lload_n 3, 1) := by decide +kernel
theorem dDe_digitAt_60 : decode cDe_digitAt 60 = .ok (.ldc2_w 26, 3) := by decide +kernel
theorem dDe_digitAt_63 : decode cDe_digitAt 63 = .ok (.ldiv, 1) := by decide +kernel
theorem dDe_digitAt_64 : decode cDe_digitAt 64 = .ok (.lstore_n 3, 1) := by decide +kernel
theorem dDe_digitAt_65 : decode cDe_digitAt 65 = .ok (.iinc 5 1, 3) := by decide +kernel
theorem dDe_digitAt_68 : decode cDe_digitAt 68 = .ok (.goto (-18), 3) := by decide +kernel
theorem dDe_digitAt_71 : decode cDe_digitAt 71 = .ok (.lload_n 3, 1) := by decide +kernel
theorem dDe_digitAt_72 : decode cDe_digitAt 72 = .ok (.ldc2_w 26, 3) := by decide +kernel
theorem dDe_digitAt_75 : decode cDe_digitAt 75 = .ok (.lrem, 1) := by decide +kernel
theorem dDe_digitAt_76 : decode cDe_digitAt 76 = .ok (.l2i, 1) := by decide +kernel
theorem dDe_digitAt_77 : decode cDe_digitAt 77 = .ok (.ireturn, 1) := by decide +kernel
theorem dDi_init_0 : decode cDi_init 0 = .ok (.aload_n 0, 1) := by decide +kernel
theorem dDi_init_1 : decode cDi_init 1 = .ok (.invokespecial 3, 3) := by decide +kernel
theorem dDi_init_4 : decode cDi_init 4 = .ok (.aload_n 0, 1) := by decide +kernel
theorem dDi_init_5 : decode cDi_init 5 = .ok (.new 9, 3) := by decide +kernel
theorem dDi_init_8 : decode cDi_init 8 = .ok (.dup, 1) := by decide +kernel
theorem dDi_init_9 : decode cDi_init 9 = .ok (.invokespecial 11, 3) := by decide +kernel
theorem dDi_init_12 : decode cDi_init 12 = .ok (.putfield 12, 3) := by decide +kernel
theorem dDi_init_15 : decode cDi_init 15 = .ok (.aload_n 0, 1) := by decide +kernel
theorem dDi_init_16 : decode cDi_init 16 = .ok (.new 9, 3) := by decide +kernel
theorem dDi_init_19 : decode cDi_init 19 = .ok (.dup, 1) := by decide +kernel
theorem dDi_init_20 : decode cDi_init 20 = .ok (.invokespecial 11, 3) := by decide +kernel
theorem dDi_init_23 : decode cDi_init 23 = .ok (.putfield 18, 3) := by decide +kernel
theorem dDi_init_26 : decode cDi_init 26 = .ok (.aload_n 0, 1) := by decide +kernel
theorem dDi_init_27 : decode cDi_init 27 = .ok (.new 9, 3) := by decide +kernel
theorem dDi_init_30 : decode cDi_init 30 = .ok (.dup, 1) := by decide +kernel
theorem dDi_init_31 : decode cDi_init 31 = .ok (.invokespecial 11, 3) := by decide +kernel
theorem dDi_init_34 : decode cDi_init 34 = .ok (.putfield 21, 3) := by decide +kernel
theorem dDi_init_37 : decode cDi_init 37 = .ok (.return_, 1) := by decide +kernel
theorem dDi_divide_0 : decode cDi_divide 0 = .ok (.aload_n 2, 1) := by decide +kernel
theorem dDi_divide_1 : decode cDi_divide 1 = .ok (.invokevirtual 24, 3) := by decide +kernel
theorem dDi_divide_4 : decode cDi_divide 4 = .ok (.ifCond .ne 11, 3) := by decide +kernel
theorem dDi_divide_7 : decode cDi_divide 7 = .ok (.aload_n 1, 1) := by decide +kernel
theorem dDi_divide_8 : decode cDi_divide 8 = .ok (.aload_n 2, 1) := by decide +kernel
theorem dDi_divide_9 : decode cDi_divide 9 = .ok (.invokevirtual 28, 3) := by decide +kernel
theorem dDi_divide_12 : decode cDi_divide 12 = .ok (.ifCond .ge 20, 3) := by decide +kernel
theorem dDi_divide_15 : decode cDi_divide 15 = .ok (.aload_n 0, 1) := by decide +kernel
theorem dDi_divide_16 : decode cDi_divide 16 = .ok (.getfield 12, 3) := by decide +kernel
theorem dDi_divide_19 : decode cDi_divide 19 = .ok (.iconst 0, 1) := by decide +kernel
theorem dDi_divide_20 : decode cDi_divide 20 = .ok (.putfield 32, 3) := by decide +kernel
theorem dDi_divide_23 : decode cDi_divide 23 = .ok (.aload_n 0, 1) := by decide +kernel
theorem dDi_divide_24 : decode cDi_divide 24 = .ok (.getfield 18, 3) := by decide +kernel
theorem dDi_divide_27 : decode cDi_divide 27 = .ok (.aload_n 1, 1) := by decide +kernel
theorem dDi_divide_28 : decode cDi_divide 28 = .ok (.invokevirtual 36, 3) := by decide +kernel
theorem dDi_divide_31 : decode cDi_divide 31 = .ok (.return_, 1) := by decide +kernel
theorem dDi_divide_32 : decode cDi_divide 32 = .ok (.aload_n 2, 1) := by decide +kernel
theorem dDi_divide_33 : decode cDi_divide 33 = .ok (.invokevirtual 40, 3) := by decide +kernel
theorem dDi_divide_36 : decode cDi_divide 36 = .ok (.istore_n 3, 1) := by decide +kernel
theorem dDi_divide_37 : decode cDi_divide 37 = .ok (.aload_n 0, 1) := by decide +kernel
theorem dDi_divide_38 : decode cDi_divide 38 = .ok (.getfield 21, 3) := by decide +kernel
theorem dDi_divide_41 : decode cDi_divide 41 = .ok (.aload_n 2, 1) := by decide +kernel
theorem dDi_divide_42 : decode cDi_divide 42 = .ok (.iload_n 3, 1) := by decide +kernel
theorem dDi_divide_43 : decode cDi_divide 43 = .ok (.invokevirtual 44, 3) := by decide +kernel
theorem dDi_divide_46 : decode cDi_divide 46 = .ok (.aload_n 0, 1) := by decide +kernel
theorem dDi_divide_47 : decode cDi_divide 47 = .ok (.getfield 21, 3) := by decide +kernel
theorem dDi_divide_50 : decode cDi_divide 50 = .ok (.aload_n 2, 1) := by decide +kernel
theorem dDi_divide_51 : decode cDi_divide 51 = .ok (.getfield 32, 3) := by decide +kernel
theorem dDi_divide_54 : decode cDi_divide 54 = .ok (.invokevirtual 48, 3) := by decide +kernel
theorem dDi_divide_57 : decode cDi_divide 57 = .ok (.aload_n 0, 1) := by decide +kernel
theorem dDi_divide_58 : decode cDi_divide 58 = .ok (.getfield 18, 3) := by decide +kernel
theorem dDi_divide_61 : decode cDi_divide 61 = .ok (.aload_n 1, 1) := by decide +kernel
theorem dDi_divide_62 : decode cDi_divide 62 = .ok (.iload_n 3, 1) := by decide +kernel
theorem dDi_divide_63 : decode cDi_divide 63 = .ok (.invokevirtual 44, 3) := by decide +kernel
theorem dDi_divide_66 : decode cDi_divide 66 = .ok (.aload_n 1, 1) := by decide +kernel
theorem dDi_divide_67 : decode cDi_divide 67 = .ok (.getfield 32, 3) := by decide +kernel
theorem dDi_divide_70 : decode cDi_divide 70 = .ok (.aload_n 2, 1) := by decide +kernel
theorem dDi_divide_71 : decode cDi_divide 71 = .ok (.getfield 32, 3) := by decide +kernel
theorem dDi_divide_74 : decode cDi_divide 74 = .ok (.isub, 1) := by decide +kernel
theorem dDi_divide_75 : decode cDi_divide 75 = .ok (.istore 4, 2) := by decide +kernel
theorem dDi_divide_77 : decode cDi_divide 77 = .ok (.iload 4, 2) := by decide +kernel
theorem dDi_divide_79 : decode cDi_divide 79 = .ok (.ifCond .lt 52, 3) := by decide +kernel
theorem dDi_divide_82 : decode cDi_divide 82 = .ok (.aload_n 0, 1) := by decide +kernel
theorem dDi_divide_83 : decode cDi_divide 83 = .ok (.iload 4, 2) := by decide +kernel
theorem dDi_divide_85 : decode cDi_divide 85 = .ok (.invokevirtual 52, 3) := by decide +kernel
theorem dDi_divide_88 : decode cDi_divide 88 = .ok (.lstore 5, 2) := by decide +kernel
theorem dDi_divide_90 : decode cDi_divide 90 = .ok (.aload_n 0, 1) := by decide +kernel
theorem dDi_divide_91 : decode cDi_divide 91 = .ok (.lload 5, 2) := by decide +kernel
theorem dDi_divide_93 : decode cDi_divide 93 = .ok (.iload 4, 2) := by decide +kernel
theorem dDi_divide_95 : decode cDi_divide 95 = .ok (.invokevirtual 56, 3) := by decide +kernel
theorem dDi_divide_98 : decode cDi_divide 98 = .ok (.ifCond .eq 15, 3) := by decide +kernel
theorem dDi_divide_101 : decode cDi_divide 101 = .ok (.lload 5, 2) := by decide +kernel
theorem dDi_divide_103 : decode cDi_divide 103 = .ok (.lconst 1, 1) := by decide +kernel
theorem dDi_divide_104 : decode cDi_divide 104 = .ok (.lsub, 1) := by decide +kernel
theorem dDi_divide_105 : decode cDi_divide 105 = .ok (.lstore 5, 2) := by decide +kernel
theorem dDi_divide_107 : decode cDi_divide 107 = .ok (.aload_n 0, 1) := by decide +kernel
theorem dDi_divide_108 : decode cDi_divide 108 = .ok (.iload 4, 2) := by decide +kernel
theorem dDi_divide_110 : decode cDi_divide 110 = .ok (.invokevirtual 60, 3) := by decide +kernel
theorem dDi_divide_113 : decode cDi_divide 113 = .ok (.aload_n 0, 1) := by decide +kernel
theorem dDi_divide_114 : decode cDi_divide 114 = .ok (.getfield 12, 3) := by decide +kernel
theorem dDi_divide_117 : decode cDi_divide 117 = .ok (.getfield 63, 3) := by decide +kernel
theorem dDi_divide_120 : decode cDi_divide 120 = .ok (.iload 4, 2) := by decide +kernel
theorem dDi_divide_122 : decode cDi_divide 122 = .ok (.lload 5, 2) := by decide +kernel
theorem dDi_divide_124 : decode cDi_divide 124 = .ok (.lastore, 1) := by decide +kernel
theorem dDi_divide_125 : decode cDi_divide 125 = .ok (.iinc 4 (-1), 3) := by decide +kernel
theorem dDi_divide_128 : decode cDi_divide 128 = .ok (.goto (-51), 3) := by decide +kernel
theorem dDi_divide_131 : decode cDi_divide 131 = .ok (.aload_n 0, 1) := by decide +kernel
theorem dDi_divide_132 : decode cDi_divide 132 = .ok (.getfield 12, 3) := by decide +kernel
theorem dDi_divide_135 : decode cDi_divide 135 = .ok (.aload_n 1, 1) := by decide +kernel
theorem dDi_divide_136 : decode cDi_divide 136 = .ok (.getfield 32, 3) := by decide +kernel
theorem dDi_divide_139 : decode cDi_divide 139 = .ok (.aload_n 2, 1) := by decide +kernel
theorem dDi_divide_140 : decode cDi_divide 140 = .ok (.getfield 32, 3) := by decide +kernel
theorem dDi_divide_143 : decode cDi_divide 143 = .ok (.isub, 1) := by decide +kernel
theorem dDi_divide_144 : decode cDi_divide 144 = .ok (.iconst 1, 1) := by decide +kernel
theorem dDi_divide_145 : decode cDi_divide 145 = .ok (.iadd, 1) := by decide +kernel
theorem dDi_divide_146 : decode cDi_divide 146 = .ok (.invokevirtual 48, 3) := by decide +kernel
theorem dDi_divide_149 : decode cDi_divide 149 = .ok (.aload_n 0, 1) := by decide +kernel
theorem dDi_divide_150 : decode cDi_divide 150 = .ok (.getfield 18, 3) := by decide +kernel
theorem dDi_divide_153 : decode cDi_divide 153 = .ok (.aload_n 2, 1) := by decide +kernel
theorem dDi_divide_154 : decode cDi_divide 154 = .ok (.getfield 32, 3) := by decide +kernel
theorem dDi_divide_157 : decode cDi_divide 157 = .ok (.invokevirtual 48, 3) := by decide +kernel
theorem dDi_divide_160 : decode cDi_divide 160 = .ok (.aload_n 0, 1) := by decide +kernel
theorem dDi_divide_161 : decode cDi_divide 161 = .ok (.getfield 18, 3) := by decide +kernel
theorem dDi_divide_164 : decode cDi_divide 164 = .ok (.iload_n 3, 1) := by decide +kernel
theorem dDi_divide_165 : decode cDi_divide 165 = .ok (.invokevirtual 67, 3) := by decide +kernel
theorem dDi_divide_168 : decode cDi_divide 168 = .ok (.return_, 1) := by decide +kernel
theorem dDi_estimate_0 : decode cDi_estimate 0 = .ok (.aload_n 0, 1) := by decide +kernel
theorem dDi_estimate_1 : decode cDi_estimate 1 = .ok (.getfield 21, 3) := by decide +kernel
theorem dDi_estimate_4 : decode cDi_estimate 4 = .ok (.aload_n 0, 1) := by decide +kernel
theorem dDi_estimate_5 : decode cDi_estimate 5 = .ok (.getfield 21, 3) := by decide +kernel
theorem dDi_estimate_8 : decode cDi_estimate 8 = .ok (.getfield 32, 3) := by decide +kernel
theorem dDi_estimate_11 : decode cDi_estimate 11 = .ok (.iconst 1, 1) := by decide +kernel
theorem dDi_estimate_12 : decode cDi_estimate 12 = .ok (.isub, 1) := by decide +kernel
theorem dDi_estimate_13 : decode cDi_estimate 13 = .ok (.invokevirtual 70, 3) := by decide +kernel
theorem dDi_estimate_16 : decode cDi_estimate 16 = .ok (.lstore_n 2, 1) := by decide +kernel
theorem dDi_estimate_17 : decode cDi_estimate 17 = .ok (.aload_n 0, 1) := by decide +kernel
theorem dDi_estimate_18 : decode cDi_estimate 18 = .ok (.getfield 21, 3) := by decide +kernel
theorem dDi_estimate_21 : decode cDi_estimate 21 = .ok (.aload_n 0, 1) := by decide +kernel
theorem dDi_estimate_22 : decode cDi_estimate 22 = .ok (.getfield 21, 3) := by decide +kernel
theorem dDi_estimate_25 : decode cDi_estimate 25 = .ok (.getfield 32, 3) := by decide +kernel
theorem dDi_estimate_28 : decode cDi_estimate 28 = .ok (.iconst 2, 1) := by decide +kernel
theorem dDi_estimate_29 : decode cDi_estimate 29 = .ok (.isub, 1) := by decide +kernel
theorem dDi_estimate_30 : decode cDi_estimate 30 = .ok (.invokevirtual 70, 3) := by decide +kernel
theorem dDi_estimate_33 : decode cDi_estimate 33 = .ok (.lstore 4, 2) := by decide +kernel
theorem dDi_estimate_35 : decode cDi_estimate 35 = .ok (.iload_n 1, 1) := by decide +kernel
theorem dDi_estimate_36 : decode cDi_estimate 36 = .ok (.aload_n 0, 1) := by decide +kernel
theorem dDi_estimate_37 : decode cDi_estimate 37 = .ok (.getfield 21, 3) := by decide +kernel
theorem dDi_estimate_40 : decode cDi_estimate 40 = .ok (.getfield 32, 3) := by decide +kernel
theorem dDi_estimate_43 : decode cDi_estimate 43 = .ok (.iadd, 1) := by decide +kernel
theorem dDi_estimate_44 : decode cDi_estimate 44 = .ok (.istore 6, 2) := by decide +kernel
theorem dDi_estimate_46 : decode cDi_estimate 46 = .ok (.aload_n 0, 1) := by decide +kernel
theorem dDi_estimate_47 : decode cDi_estimate 47 = .ok (.getfield 18, 3) := by decide +kernel
theorem dDi_estimate_50 : decode cDi_estimate 50 = .ok (.iload 6, 2) := by decide +kernel
theorem dDi_estimate_52 : decode cDi_estimate 52 = .ok (.invokevirtual 70, 3) := by decide +kernel
theorem dDi_estimate_55 : decode cDi_estimate 55 = .ok (.bipush 32, 2) := by decide +kernel
theorem dDi_estimate_57 : decode cDi_estimate 57 = .ok (.lshl, 1) := by decide +kernel
theorem dDi_estimate_58 : decode cDi_estimate 58 = .ok (.aload_n 0, 1) := by decide +kernel
theorem dDi_estimate_59 : decode cDi_estimate 59 = .ok (.getfield 18, 3) := by decide +kernel
theorem dDi_estimate_62 : decode cDi_estimate 62 = .ok (.iload 6, 2) := by decide +kernel
theorem dDi_estimate_64 : decode cDi_estimate 64 = .ok (.iconst 1, 1) := by decide +kernel
theorem dDi_estimate_65 : decode cDi_estimate 65 = .ok (.isub, 1) := by decide +kernel
theorem dDi_estimate_66 : decode cDi_estimate 66 = .ok (.invokevirtual 70, 3) := by decide +kernel
theorem dDi_estimate_69 : decode cDi_estimate 69 = .ok (.lor, 1) := by decide +kernel
theorem dDi_estimate_70 : decode cDi_estimate 70 = .ok (.lstore 7, 2) := by decide +kernel
theorem dDi_estimate_72 : decode cDi_estimate 72 = .ok (.aload_n 0, 1) := by decide +kernel
theorem dDi_estimate_73 : decode cDi_estimate 73 = .ok (.getfield 18, 3) := by decide +kernel
theorem dDi_estimate_76 : decode cDi_estimate 76 = .ok (.iload 6, 2) := by decide +kernel
theorem dDi_estimate_78 : decode cDi_estimate 78 = .ok (.invokevirtual 70, 3) := by decide +kernel
theorem dDi_estimate_81 : decode cDi_estimate 81 = .ok (.lload_n 2, 1) := by decide +kernel
theorem dDi_estimate_82 : decode cDi_estimate 82 = .ok (.lcmp, 1) := by decide +kernel
theorem dDi_estimate_83 : decode cDi_estimate 83 = .ok (.ifCond .lt 9, 3) := by decide +kernel
theorem dDi_estimate_86 : decode cDi_estimate 86 = .ok (.ldc2_w 73, 3) := by decide +kernel
theorem dDi_estimate_89 : decode cDi_estimate 89 = .ok (.goto 9, 3) := by decide +kernel
theorem dDi_estimate_92 : decode cDi_estimate 92 = .ok (.lload 7, 2) := by decide +kernel
theorem dDi_estimate_94 : decode cDi_estimate 94 = .ok (.lload_n 2, 1) := by decide +kernel
theorem dDi_estimate_95 : decode cDi_estimate 95 = .ok (.invokestatic 75, 3) := by decide +kernel
theorem dDi_estimate_98 : decode cDi_estimate 98 = .ok (.lstore 9, 2) := by decide +kernel
theorem dDi_estimate_100 : decode cDi_estimate 100 = .ok (.lload 7, 2) := by decide +kernel
theorem dDi_estimate_102 : decode cDi_estimate 102 = .ok (.lload 9, 2) := by decide +kernel
theorem dDi_estimate_104 : decode cDi_estimate 104 = .ok (.lload_n 2, 1) := by decide +kernel
theorem dDi_estimate_105 : decode cDi_estimate 105 = .ok (.lmul, 1) := by decide +kernel
theorem dDi_estimate_106 : decode cDi_estimate 106 = .ok (.lsub, 1) := by decide +kernel
theorem dDi_estimate_107 : decode cDi_estimate 107 = .ok (.lstore 11, 2) := by decide +kernel
theorem dDi_estimate_109 : decode cDi_estimate 109 = .ok (.iconst 0, 1) := by decide +kernel
theorem dDi_estimate_110 : decode cDi_estimate 110 = .ok (.istore 13, 2) := by decide +kernel
theorem dDi_estimate_112 : decode cDi_estimate 112 = .ok (.iload 13, 2) := by decide +kernel
theorem dDi_estimate_114 : decode cDi_estimate 114 = .ok (.iconst 2, 1) := by decide +kernel
theorem dDi_estimate_115 : decode cDi_estimate 115 = .ok (.if_icmp .ge 65, 3) := by decide +kernel
theorem dDi_estimate_118 : decode cDi_estimate 118 = .ok (.lload 11, 2) := by decide +kernel
theorem dDi_estimate_120 : decode cDi_estimate 120 = .ok (.ldc2_w 73, 3) := by decide +kernel
theorem dDi_estimate_123 : decode cDi_estimate 123 = .ok (.lcmp, 1) := by decide +kernel
theorem dDi_estimate_124 : decode cDi_estimate 124 = .ok (.ifCond .gt 56, 3) := by decide +kernel
theorem dDi_estimate_127 : decode cDi_estimate 127 = .ok (.lload 11, 2) := by decide +kernel
theorem dDi_estimate_129 : decode cDi_estimate 129 = .ok (.bipush 32, 2) := by decide +kernel
theorem dDi_estimate_131 : decode cDi_estimate 131 = .ok (.lshl, 1) := by decide +kernel
theorem dDi_estimate_132 : decode cDi_estimate 132 = .ok (.aload_n 0, 1) := by decide +kernel
theorem dDi_estimate_133 : decode cDi_estimate 133 = .ok (.getfield 18, 3) := by decide +kernel
theorem dDi_estimate_136 : decode cDi_estimate 136 = .ok (.iload 6, 2) := by decide +kernel
theorem dDi_estimate_138 : decode cDi_estimate 138 = .ok (.iconst 2, 1) := by decide +kernel
theorem dDi_estimate_139 : decode cDi_estimate 139 = .ok (.isub, 1) := by decide +kernel
theorem dDi_estimate_140 : decode cDi_estimate 140 = .ok (.invokevirtual 70, 3) := by decide +kernel
theorem dDi_estimate_143 : decode cDi_estimate 143 = .ok (.lor, 1) := by decide +kernel
theorem dDi_estimate_144 : decode cDi_estimate 144 = .ok (.lstore 14, 2) := by decide +kernel
theorem dDi_estimate_146 : decode cDi_estimate 146 = .ok (.lload 9, 2) := by decide +kernel
theorem dDi_estimate_148 : decode cDi_estimate 148 = .ok (.lload 4, 2) := by decide +kernel
theorem dDi_estimate_150 : decode cDi_estimate 150 = .ok (.lmul, 1) := by decide +kernel
theorem dDi_estimate_151 : decode cDi_estimate 151 = .ok (.lload 14, 2) := by decide +kernel
theorem dDi_estimate_153 : decode cDi_estimate 153 = .ok (.invokestatic 79, 3) := by decide +kernel
theorem dDi_estimate_156 : decode cDi_estimate 156 = .ok (.ifCond .gt 6, 3) := by decide +kernel
theorem dDi_estimate_159 : decode cDi_estimate 159 = .ok (.goto 21, 3) := by decide +kernel
theorem dDi_estimate_162 : decode cDi_estimate 162 = .ok (.lload 9, 2) := by decide +kernel
theorem dDi_estimate_164 : decode cDi_estimate 164 = .ok (.lconst 1, 1) := by decide +kernel
theorem dDi_estimate_165 : decode cDi_estimate 165 = .ok (.lsub, 1) := by decide +kernel
theorem dDi_estimate_166 : decode cDi_estimate 166 = .ok (.lstore 9, 2) := by decide +kernel
theorem dDi_estimate_168 : decode cDi_estimate 168 = .ok (.lload 11, 2) := by decide +kernel
theorem dDi_estimate_170 : decode cDi_estimate 170 = .ok (.lload_n 2, 1) := by decide +kernel
theorem dDi_estimate_171 : decode cDi_estimate 171 = .ok (.ladd, 1) := by decide +kernel
theorem dDi_estimate_172 : decode cDi_estimate 172 = .ok (.lstore 11, 2) := by decide +kernel
theorem dDi_estimate_174 : decode cDi_estimate 174 = .ok (.iinc 13 1, 3) := by decide +kernel
theorem dDi_estimate_177 : decode cDi_estimate 177 = .ok (.goto (-65), 3) := by decide +kernel
theorem dDi_estimate_180 : decode cDi_estimate 180 = .ok (.lload 9, 2) := by decide +kernel
theorem dDi_estimate_182 : decode cDi_estimate 182 = .ok (.lreturn, 1) := by decide +kernel
theorem dDi_quotientOf_0 : decode cDi_quotientOf 0 = .ok (.lload_n 2, 1) := by decide +kernel
theorem dDi_quotientOf_1 : decode cDi_quotientOf 1 = .ok (.lconst 0, 1) := by decide +kernel
theorem dDi_quotientOf_2 : decode cDi_quotientOf 2 = .ok (.lcmp, 1) := by decide +kernel
theorem dDi_quotientOf_3 : decode cDi_quotientOf 3 = .ok (.ifCond .gt 5, 3) := by decide +kernel
theorem dDi_quotientOf_6 : decode cDi_quotientOf 6 = .ok (.lconst 0, 1) := by decide +kernel
theorem dDi_quotientOf_7 : decode cDi_quotientOf 7 = .ok (.lreturn, 1) := by decide +kernel
theorem dDi_quotientOf_8 : decode cDi_quotientOf 8 = .ok (.lload_n 0, 1) := by decide +kernel
theorem dDi_quotientOf_9 : decode cDi_quotientOf 9 = .ok (.lconst 0, 1) := by decide +kernel
theorem dDi_quotientOf_10 : decode cDi_quotientOf 10 = .ok (.lcmp, 1) := by decide +kernel
theorem dDi_quotientOf_11 : decode cDi_quotientOf 11 = .ok (.ifCond .lt 7, 3) := by decide +kernel
theorem dDi_quotientOf_14 : decode cDi_quotientOf 14 = .ok (.lload_n 0, 1) := by decide +kernel
theorem dDi_quotientOf_15 : decode cDi_quotientOf 15 = .ok (.lload_n 2, 1) := by decide +kernel
theorem dDi_quotientOf_16 : decode cDi_quotientOf 16 = .ok (.ldiv, 1) := by decide +kernel
theorem dDi_quotientOf_17 : decode cDi_quotientOf 17 = .ok (.lreturn, 1) := by decide +kernel
theorem dDi_quotientOf_18 : decode cDi_quotientOf 18 = .ok (.lload_n 0, 1) := by decide +kernel
theorem dDi_quotientOf_19 : decode cDi_quotientOf 19 = .ok (.iconst 1, 1) := by decide +kernel
theorem dDi_quotientOf_20 : decode cDi_quotientOf 20 = .ok (.lushr, 1) := by decide +kernel
theorem dDi_quotientOf_21 : decode cDi_quotientOf 21 = .ok (.lload_n 2, 1) := by decide +kernel
theorem dDi_quotientOf_22 : decode cDi_quotientOf 22 = .ok (.ldiv, 1) := by decide +kernel
theorem dDi_quotientOf_23 : decode cDi_quotientOf 23 = .ok (.iconst 1, 1) := by decide +kernel
theorem dDi_quotientOf_24 : decode cDi_quotientOf 24 = .ok (.lshl, 1) := by decide +kernel
theorem dDi_quotientOf_25 : decode cDi_quotientOf 25 = .ok (.lstore 4, 2) := by decide +kernel
theorem dDi_quotientOf_27 : decode cDi_quotientOf 27 = .ok (.lload_n 0, 1) := by decide +kernel
theorem dDi_quotientOf_28 : decode cDi_quotientOf 28 = .ok (.lload 4, 2) := by decide +kernel
theorem dDi_quotientOf_30 : decode cDi_quotientOf 30 = .ok (.lload_n 2, 1) := by decide +kernel
theorem dDi_quotientOf_31 : decode cDi_quotientOf 31 = .ok (.lmul, 1) := by decide +kernel
theorem dDi_quotientOf_32 : decode cDi_quotientOf 32 = .ok (.lsub, 1) := by decide +kernel
theorem dDi_quotientOf_33 : decode cDi_quotientOf 33 = .ok (.lload_n 2, 1) := by decide +kernel
theorem dDi_quotientOf_34 : decode cDi_quotientOf 34 = .ok (.lcmp, 1) := by decide +kernel
theorem dDi_quotientOf_35 : decode cDi_quotientOf 35 = .ok (.ifCond .lt 10, 3) := by decide +kernel
theorem dDi_quotientOf_38 : decode cDi_quotientOf 38 = .ok (.lload 4, 2) := by decide +kernel
theorem dDi_quotientOf_40 : decode cDi_quotientOf 40 = .ok (.lconst 1, 1) := by decide +kernel
theorem dDi_quotientOf_41 : decode cDi_quotientOf 41 = .ok (.ladd, 1) := by decide +kernel
theorem dDi_quotientOf_42 : decode cDi_quotientOf 42 = .ok (.goto 5, 3) := by decide +kernel
theorem dDi_quotientOf_45 : decode cDi_quotientOf 45 = .ok (.lload 4, 2) := by decide +kernel
theorem dDi_quotientOf_47 : decode cDi_quotientOf 47 = .ok (.lreturn, 1) := by decide +kernel
theorem dDi_subtract_0 : decode cDi_subtract 0 = .ok (.aload_n 0, 1) := by decide +kernel
theorem dDi_subtract_1 : decode cDi_subtract 1 = .ok (.getfield 21, 3) := by decide +kernel
theorem dDi_subtract_4 : decode cDi_subtract 4 = .ok (.getfield 32, 3) := by decide +kernel
theorem dDi_subtract_7 : decode cDi_subtract 7 = .ok (.istore 4, 2) := by decide +kernel
theorem dDi_subtract_9 : decode cDi_subtract 9 = .ok (.lconst 0, 1) := by decide +kernel
theorem dDi_subtract_10 : decode cDi_subtract 10 = .ok (.lstore 5, 2) := by decide +kernel
theorem dDi_subtract_12 : decode cDi_subtract 12 = .ok (.lconst 0, 1) := by decide +kernel
theorem dDi_subtract_13 : decode cDi_subtract 13 = .ok (.lstore 7, 2) := by decide +kernel
theorem dDi_subtract_15 : decode cDi_subtract 15 = .ok (.iconst 0, 1) := by decide +kernel
theorem dDi_subtract_16 : decode cDi_subtract 16 = .ok (.istore 9, 2) := by decide +kernel
theorem dDi_subtract_18 : decode cDi_subtract 18 = .ok (.iload 9, 2) := by decide +kernel
theorem dDi_subtract_20 : decode cDi_subtract 20 = .ok (.iload 4, 2) := by decide +kernel
theorem dDi_subtract_22 : decode cDi_subtract 22 = .ok (.if_icmp .ge 89, 3) := by decide +kernel
theorem dDi_subtract_25 : decode cDi_subtract 25 = .ok (.lload_n 1, 1) := by decide +kernel
theorem dDi_subtract_26 : decode cDi_subtract 26 = .ok (.aload_n 0, 1) := by decide +kernel
theorem dDi_subtract_27 : decode cDi_subtract 27 = .ok (.getfield 21, 3) := by decide +kernel
theorem dDi_subtract_30 : decode cDi_subtract 30 = .ok (.getfield 63, 3) := by decide +kernel
theorem dDi_subtract_33 : decode cDi_subtract 33 = .ok (.iload 9, 2) := by decide +kernel
theorem dDi_subtract_35 : decode cDi_subtract 35 = .ok (.laload, 1) := by decide +kernel
theorem dDi_subtract_36 : decode cDi_subtract 36 = .ok (.lmul, 1) := by decide +kernel
theorem dDi_subtract_37 : decode cDi_subtract 37 = .ok (.lload 5, 2) := by decide +kernel
theorem dDi_subtract_39 : decode cDi_subtract 39 = .ok (.ladd, 1) := by decide +kernel
theorem dDi_subtract_40 : decode cDi_subtract 40 = .ok (.lstore 10, 2) := by decide +kernel
theorem dDi_subtract_42 : decode cDi_subtract 42 = .ok (.lload 10, 2) := by decide +kernel
theorem dDi_subtract_44 : decode cDi_subtract 44 = .ok (.bipush 32, 2) := by decide +kernel
theorem dDi_subtract_46 : decode cDi_subtract 46 = .ok (.lushr, 1) := by decide +kernel
theorem dDi_subtract_47 : decode cDi_subtract 47 = .ok (.lstore 5, 2) := by decide +kernel
theorem dDi_subtract_49 : decode cDi_subtract 49 = .ok (.aload_n 0, 1) := by decide +kernel
theorem dDi_subtract_50 : decode cDi_subtract 50 = .ok (.getfield 18, 3) := by decide +kernel
theorem dDi_subtract_53 : decode cDi_subtract 53 = .ok (.getfield 63, 3) := by decide +kernel
theorem dDi_subtract_56 : decode cDi_subtract 56 = .ok (.iload_n 3, 1) := by decide +kernel
theorem dDi_subtract_57 : decode cDi_subtract 57 = .ok (.iload 9, 2) := by decide +kernel
theorem dDi_subtract_59 : decode cDi_subtract 59 = .ok (.iadd, 1) := by decide +kernel
theorem dDi_subtract_60 : decode cDi_subtract 60 = .ok (.laload, 1) := by decide +kernel
theorem dDi_subtract_61 : decode cDi_subtract 61 = .ok (.lload 10, 2) := by decide +kernel
theorem dDi_subtract_63 : decode cDi_subtract 63 = .ok (.ldc2_w 73, 3) := by decide +kernel
theorem dDi_subtract_66 : decode cDi_subtract 66 = .ok (.land, 1) := by decide +kernel
theorem dDi_subtract_67 : decode cDi_subtract 67 = .ok (.lsub, 1) := by decide +kernel
theorem dDi_subtract_68 : decode cDi_subtract 68 = .ok (.lload 7, 2) := by decide +kernel
theorem dDi_subtract_70 : decode cDi_subtract 70 = .ok (.lsub, 1) := by decide +kernel
theorem dDi_subtract_71 : decode cDi_subtract 71 = .ok (.lstore 12, 2) := by decide +kernel
theorem dDi_subtract_73 : decode cDi_subtract 73 = .ok (.aload_n 0, 1) := by decide +kernel
theorem dDi_subtract_74 : decode cDi_subtract 74 = .ok (.getfield 18, 3) := by decide +kernel
theorem dDi_subtract_77 : decode cDi_subtract 77 = .ok (.getfield 63, 3) := by decide +kernel
theorem dDi_subtract_80 : decode cDi_subtract 80 = .ok (.iload_n 3, 1) := by decide +kernel
theorem dDi_subtract_81 : decode cDi_subtract 81 = .ok (.iload 9, 2) := by decide +kernel
theorem dDi_subtract_83 : decode cDi_subtract 83 = .ok (.iadd, 1) := by decide +kernel
theorem dDi_subtract_84 : decode cDi_subtract 84 = .ok (.lload 12, 2) := by decide +kernel
theorem dDi_subtract_86 : decode cDi_subtract 86 = .ok (.ldc2_w 73, 3) := by decide +kernel
theorem dDi_subtract_89 : decode cDi_subtract 89 = .ok (.land, 1) := by decide +kernel
theorem dDi_subtract_90 : decode cDi_subtract 90 = .ok (.lastore, 1) := by decide +kernel
theorem dDi_subtract_91 : decode cDi_subtract 91 = .ok (.lload 12, 2) := by decide +kernel
theorem dDi_subtract_93 : decode cDi_subtract 93 = .ok (.lconst 0, 1) := by decide +kernel
theorem dDi_subtract_94 : decode cDi_subtract 94 = .ok (.lcmp, 1) := by decide +kernel
theorem dDi_subtract_95 : decode cDi_subtract 95 = .ok (.ifCond .ge 7, 3) := by decide +kernel
theorem dDi_subtract_98 : decode cDi_subtract 98 = .ok (.lconst 1, 1) := by decide +kernel
theorem dDi_subtract_99 : decode cDi_subtract 99 = .ok (.goto 4, 3) := by decide +kernel
theorem dDi_subtract_102 : decode cDi_subtract 102 = .ok (.lconst 0, 1) := by decide +kernel
theorem dDi_subtract_103 : decode cDi_subtract 103 = .ok (.lstore 7, 2) := by decide +kernel
theorem dDi_subtract_105 : decode cDi_subtract 105 = .ok (.iinc 9 1, 3) := by decide +kernel
theorem dDi_subtract_108 : decode cDi_subtract 108 = .ok (.goto (-90), 3) := by decide +kernel
theorem dDi_subtract_111 : decode cDi_subtract 111 = .ok (.aload_n 0, 1) := by decide +kernel
theorem dDi_subtract_112 : decode cDi_subtract 112 = .ok (.getfield 18, 3) := by decide +kernel
theorem dDi_subtract_115 : decode cDi_subtract 115 = .ok (.getfield 63, 3) := by decide +kernel
theorem dDi_subtract_118 : decode cDi_subtract 118 = .ok (.iload_n 3, 1) := by decide +kernel
theorem dDi_subtract_119 : decode cDi_subtract 119 = .ok (.iload 4, 2) := by decide +kernel
theorem dDi_subtract_121 : decode cDi_subtract 121 = .ok (.iadd, 1) := by decide +kernel
theorem dDi_subtract_122 : decode cDi_subtract 122 = .ok (.laload, 1) := by decide +kernel
theorem dDi_subtract_123 : decode cDi_subtract 123 = .ok (.lload 5, 2) := by decide +kernel
theorem dDi_subtract_125 : decode cDi_subtract 125 = .ok (.lload 7, 2) := by decide +kernel
theorem dDi_subtract_127 : decode cDi_subtract 127 = .ok (.ladd, 1) := by decide +kernel
theorem dDi_subtract_128 : decode cDi_subtract 128 = .ok (.lcmp, 1) := by decide +kernel
theorem dDi_subtract_129 : decode cDi_subtract 129 = .ok (.ifCond .ge 7, 3) := by decide +kernel
theorem dDi_subtract_132 : decode cDi_subtract 132 = .ok (.iconst 1, 1) := by decide +kernel
theorem dDi_subtract_133 : decode cDi_subtract 133 = .ok (.goto 4, 3) := by decide +kernel
theorem dDi_subtract_136 : decode cDi_subtract 136 = .ok (.iconst 0, 1) := by decide +kernel
theorem dDi_subtract_137 : decode cDi_subtract 137 = .ok (.ireturn, 1) := by decide +kernel
theorem dDi_addBack_0 : decode cDi_addBack 0 = .ok (.aload_n 0, 1) := by decide +kernel
theorem dDi_addBack_1 : decode cDi_addBack 1 = .ok (.getfield 21, 3) := by decide +kernel
theorem dDi_addBack_4 : decode cDi_addBack 4 = .ok (.getfield 32, 3) := by decide +kernel
theorem dDi_addBack_7 : decode cDi_addBack 7 = .ok (.istore_n 2, 1) := by decide +kernel
theorem dDi_addBack_8 : decode cDi_addBack 8 = .ok (.lconst 0, 1) := by decide +kernel
theorem dDi_addBack_9 : decode cDi_addBack 9 = .ok (.lstore_n 3, 1) := by decide +kernel
theorem dDi_addBack_10 : decode cDi_addBack 10 = .ok (.iconst 0, 1) := by decide +kernel
theorem dDi_addBack_11 : decode cDi_addBack 11 = .ok (.istore 5, 2) := by decide +kernel
theorem dDi_addBack_13 : decode cDi_addBack 13 = .ok (.iload 5, 2) := by decide +kernel
theorem dDi_addBack_15 : decode cDi_addBack 15 = .ok (.iload_n 2, 1) := by decide +kernel
theorem dDi_addBack_16 : decode cDi_addBack 16 = .ok (.if_icmp .ge 60, 3) := by decide +kernel
theorem dDi_addBack_19 : decode cDi_addBack 19 = .ok (.aload_n 0, 1) := by decide +kernel
theorem dDi_addBack_20 : decode cDi_addBack 20 = .ok (.getfield 18, 3) := by decide +kernel
theorem dDi_addBack_23 : decode cDi_addBack 23 = .ok (.getfield 63, 3) := by decide +kernel
theorem dDi_addBack_26 : decode cDi_addBack 26 = .ok (.iload_n 1, 1) := by decide +kernel
theorem dDi_addBack_27 : decode cDi_addBack 27 = .ok (.iload 5, 2) := by decide +kernel
theorem dDi_addBack_29 : decode cDi_addBack 29 = .ok (.iadd, 1) := by decide +kernel
theorem dDi_addBack_30 : decode cDi_addBack 30 = .ok (.laload, 1) := by decide +kernel
theorem dDi_addBack_31 : decode cDi_addBack 31 = .ok (.aload_n 0, 1) := by decide +kernel
theorem dDi_addBack_32 : decode cDi_addBack 32 = .ok (.getfield 21, 3) := by decide +kernel
theorem dDi_addBack_35 : decode cDi_addBack 35 = .ok (.getfield 63, 3) := by decide +kernel
theorem dDi_addBack_38 : decode cDi_addBack 38 = .ok (.iload 5, 2) := by decide +kernel
theorem dDi_addBack_40 : decode cDi_addBack 40 = .ok (.laload, 1) := by decide +kernel
theorem dDi_addBack_41 : decode cDi_addBack 41 = .ok (.ladd, 1) := by decide +kernel
theorem dDi_addBack_42 : decode cDi_addBack 42 = .ok (.lload_n 3, 1) := by decide +kernel
theorem dDi_addBack_43 : decode cDi_addBack 43 = .ok (.ladd, 1) := by decide +kernel
theorem dDi_addBack_44 : decode cDi_addBack 44 = .ok (.lstore 6, 2) := by decide +kernel
theorem dDi_addBack_46 : decode cDi_addBack 46 = .ok (.aload_n 0, 1) := by decide +kernel
theorem dDi_addBack_47 : decode cDi_addBack 47 = .ok (.getfield 18, 3) := by decide +kernel
theorem dDi_addBack_50 : decode cDi_addBack 50 = .ok (.getfield 63, 3) := by decide +kernel
theorem dDi_addBack_53 : decode cDi_addBack 53 = .ok (.iload_n 1, 1) := by decide +kernel
theorem dDi_addBack_54 : decode cDi_addBack 54 = .ok (.iload 5, 2) := by decide +kernel
theorem dDi_addBack_56 : decode cDi_addBack 56 = .ok (.iadd, 1) := by decide +kernel
theorem dDi_addBack_57 : decode cDi_addBack 57 = .ok (.lload 6, 2) := by decide +kernel
theorem dDi_addBack_59 : decode cDi_addBack 59 = .ok (.ldc2_w 73, 3) := by decide +kernel
theorem dDi_addBack_62 : decode cDi_addBack 62 = .ok (.land, 1) := by decide +kernel
theorem dDi_addBack_63 : decode cDi_addBack 63 = .ok (.lastore, 1) := by decide +kernel
theorem dDi_addBack_64 : decode cDi_addBack 64 = .ok (.lload 6, 2) := by decide +kernel
theorem dDi_addBack_66 : decode cDi_addBack 66 = .ok (.bipush 32, 2) := by decide +kernel
theorem dDi_addBack_68 : decode cDi_addBack 68 = .ok (.lushr, 1) := by decide +kernel
theorem dDi_addBack_69 : decode cDi_addBack 69 = .ok (.lstore_n 3, 1) := by decide +kernel
theorem dDi_addBack_70 : decode cDi_addBack 70 = .ok (.iinc 5 1, 3) := by decide +kernel
theorem dDi_addBack_73 : decode cDi_addBack 73 = .ok (.goto (-60), 3) := by decide +kernel
theorem dDi_addBack_76 : decode cDi_addBack 76 = .ok (.return_, 1) := by decide +kernel
